/-! ===== class and model in an ask ===== -/
def sOf (f : Nat) : Nat := if f = 0 then 0 else if f = 10 then 3 else if f = 11 then 1 else if f = 12 then 2 else 4
theorem sOf_le (f : Nat) : sOf f ≤ 4 := by unfold sOf; (repeat' split) <;> omega
theorem sOf_0 {f : Nat} : sOf f = 0 ↔ f = 0 := by unfold sOf; (repeat' split) <;> omega
theorem sOf_3 {f : Nat} : sOf f = 3 ↔ f = 10 := by unfold sOf; (repeat' split) <;> omega
theorem sOf_1 {f : Nat} : sOf f = 1 ↔ f = 11 := by unfold sOf; (repeat' split) <;> omega
theorem sOf_2 {f : Nat} : sOf f = 2 ↔ f = 12 := by unfold sOf; (repeat' split) <;> omega
def EQA : List (Nat × Nat) := [(69, 17), (70, 18), (71, 19), (72, 20), (73, 21), (74, 22), (75, 23), (76, 24), (77, 26), (78, 27), (79, 28), (80, 29), (66, 8), (67, 9), (68, 10), (82, 2), (83, 3), (84, 4)]
def RTr (a v : WW) : Prop := v 57 35 = a 32 7 ∧ ∀ n, n < a 32 7 → v 87 n = a 33 n ∧ v 89 n = a 37 n ∧ ∀ i, i < a 37 n → v 90 (6 * n + i) = a 38 (n * 6 + i) ∧ v 91 (6 * n + i) = a 39 (n * 6 + i)
def RA (a v : WW) : Prop := (∀ p, p ∈ EQA → v p.1 = a p.2) ∧ v 57 10 = a 6 1 ∧ (∀ h, h < 5 → v 58 h = a (11 + h) 0 ∧ v 59 h = a (11 + h) 1 ∧ v 60 h = a (11 + h) 2 ∧ v 61 h = a (11 + h) 3 ∧ v 62 h = a (11 + h) 4) ∧ RTr a v ∧ (v 82 (v 57 49) = a 50 11 ∧ v 57 49 < 4)
def FA (a b : WW) : Prop := (∀ k, k < 42 → k ≠ 1 → k ≠ 5 → k ≠ 25 → (k < 11 ∨ 16 ≤ k) → b k = a k) ∧ (∀ h, h < 5 → ∀ i, i < 5 → b (11 + h) i = a (11 + h) i) ∧ b 50 11 = a 50 11
def FV (v u : WW) : Prop := (∀ k, k < 57 ∨ (58 ≤ k ∧ k ≤ 62) ∨ (66 ≤ k ∧ k ≤ 80) ∨ (82 ≤ k ∧ k ≤ 84) ∨ (86 ≤ k ∧ k ≤ 91) ∨ 104 ≤ k → u k = v k) ∧ ∀ i, i ≠ 1 → i ≠ 47 → i ≠ 50 → i ≠ 51 → u 57 i = v 57 i
def okV (k i : Nat) : Bool := k == 63 || k == 64 || k == 65 || k == 81 || k == 85 || k == 94 || k == 95 || k == 96 || k == 97 || k == 98 || k == 99 || k == 100 || k == 101 || k == 102 || k == 103 || (k == 57 && (i == 1 || i == 47 || i == 50 || i == 51))
theorem FA.rf (a : WW) : FA a a := ⟨fun _ _ _ _ _ _ => rfl, fun _ _ _ _ => rfl, rfl⟩
theorem FA.tr {a b c : WW} (h : FA a b) (g : FA b c) : FA a c := ⟨fun k k1 k2 k3 k4 k5 => (g.1 k k1 k2 k3 k4 k5).trans (h.1 k k1 k2 k3 k4 k5), fun h' hh i hi => (g.2.1 h' hh i hi).trans (h.2.1 h' hh i hi), g.2.2.trans h.2.2⟩
theorem FRN.fa {a b : WW} (h : FRN a b) : FA a b := ⟨fun k k1 _ _ _ _ => h.1 k (by omega), fun h' hh i _ => by rw [h.1 (11 + h') (by omega)], h.2.2 11 (by decide)⟩
theorem FRG.fa {a b : WW} (h : FRG a b) : FA a b := ⟨fun k k1 _ _ k4 _ => h.1 k (by omega) k4, fun h' hh i _ => by rw [h.1 (11 + h') (by omega) (by omega)], h.2.2 11 (by decide)⟩
theorem FRM.fa {a b : WW} (h : FRM a b) : FA a b := ⟨fun k k1 _ _ _ _ => h.1 k k1, fun h' hh i _ => by rw [h.1 (11 + h') (by omega)], by rw [h.2.1]⟩
theorem FV.rf (v : WW) : FV v v := ⟨fun _ _ => rfl, fun _ _ _ _ _ => rfl⟩
theorem FV.tr {v u t : WW} (h : FV v u) (g : FV u t) : FV v t := ⟨fun k hk => (g.1 k hk).trans (h.1 k hk), fun i i1 i2 i3 i4 => (g.2 i i1 i2 i3 i4).trans (h.2 i i1 i2 i3 i4)⟩
theorem FV.up {v u : WW} (h : FV v u) {k i n : Nat} (hk : okV k i = true) : FV v (up2 u k i n) := by
  unfold okV at hk
  simp only [Bool.or_eq_true, Bool.and_eq_true, beq_iff_eq] at hk
  refine ⟨fun j hj => ?_, fun j j1 j2 j3 j4 => ?_⟩
  · rw [up2_k _ _ _ _ (show j ≠ k by omega)]; exact h.1 j hj
  · by_cases e : k = 57
    · subst e
      rw [up2_d _ _ _ _ (show j ≠ i by omega)]; exact h.2 j j1 j2 j3 j4
    · rw [up2_n _ _ _ _ (show 57 ≠ k by omega)]; exact h.2 j j1 j2 j3 j4
theorem RA.fr {a b v u : WW} (h : RA a v) (fa : FA a b) (fv : FV v u) : RA b u := by
  obtain ⟨h1, h2, h3, ⟨h4, h5⟩, h6, h7⟩ := h
  have ev : ∀ k, (58 ≤ k ∧ k ≤ 62) ∨ (66 ≤ k ∧ k ≤ 80) ∨ (82 ≤ k ∧ k ≤ 84) ∨ (86 ≤ k ∧ k ≤ 91) → u k = v k := fun k hk => fv.1 k (by omega)
  have ea : ∀ k, k < 42 → k ≠ 1 → k ≠ 5 → k ≠ 25 → (k < 11 ∨ 16 ≤ k) → b k = a k := fa.1
  refine ⟨fun p hp => ?_, ?_, fun h hh => ?_, ⟨?_, fun n hn => ?_⟩, ?_, ?_⟩
  · have hb : ∀ p, p ∈ EQA → ((66 ≤ p.1 ∧ p.1 ≤ 80) ∨ (82 ≤ p.1 ∧ p.1 ≤ 84)) ∧ p.2 < 42 ∧ p.2 ≠ 1 ∧ p.2 ≠ 5 ∧ p.2 ≠ 25 ∧ (p.2 < 11 ∨ 16 ≤ p.2) := by decide
    have q := hb p hp
    rw [ev p.1 (by omega), ea p.2 q.2.1 q.2.2.1 q.2.2.2.1 q.2.2.2.2.1 q.2.2.2.2.2]
    exact h1 p hp
  · rw [fv.2 10 (by decide) (by decide) (by decide) (by decide), ea 6 (by decide) (by decide) (by decide) (by decide) (by decide)]; exact h2
  · rw [ev 58 (by decide), ev 59 (by decide), ev 60 (by decide), ev 61 (by decide), ev 62 (by decide), fa.2.1 h hh 0 (by decide), fa.2.1 h hh 1 (by decide), fa.2.1 h hh 2 (by decide), fa.2.1 h hh 3 (by decide), fa.2.1 h hh 4 (by decide)]
    exact h3 h hh
  · rw [fv.2 35 (by decide) (by decide) (by decide) (by decide), ea 32 (by decide) (by decide) (by decide) (by decide) (by decide)]; exact h4
  · rw [ea 32 (by decide) (by decide) (by decide) (by decide) (by decide)] at hn
    rw [ev 87 (by decide), ev 89 (by decide), ev 90 (by decide), ev 91 (by decide), ea 33 (by decide) (by decide) (by decide) (by decide) (by decide), ea 37 (by decide) (by decide) (by decide) (by decide) (by decide), ea 38 (by decide) (by decide) (by decide) (by decide) (by decide), ea 39 (by decide) (by decide) (by decide) (by decide) (by decide)]
    exact h5 n hn
  · rw [fv.2 49 (by decide) (by decide) (by decide) (by decide), ev 82 (by decide), fa.2.2]; exact h6
  · rw [fv.2 49 (by decide) (by decide) (by decide) (by decide)]; exact h7
def RT (a v : WW) : Prop := v 57 1 = a 1 4 ∧ v 85 = a 5
def RH (a v : WW) : Prop := ∀ h, h < 5 → v 63 h = a (11 + h) 6 ∧ v 65 h = a (11 + h) 8 ∧ v 64 h = (if a (11 + h) 5 = 0 then a (11 + h) 7 else N1)
def RK (k u : Nat → Nat) (now : Nat) : Prop := ∀ x, x < 192 → u x = k x ∨ (k x ≤ now ∧ (u x = N1 ∨ u x ≤ now))
def RC (a v : WW) : Prop := (v 98 = a 43 ∧ v 99 = a 44 ∧ v 100 = a 45 ∧ v 101 = a 46 ∧ v 102 = a 47) ∧ v 57 51 = a 42 5 ∧ ∀ c, c < a 42 5 → ∀ i, i < a 46 c → v 103 (8 * c + i) = a 49 (a 48 c + i)
def RQ (a v : WW) : Prop := v 97 = a 53 ∧ v 57 47 = a 50 1 ∧ v 57 50 = a 50 1
def RF (f s r : Nat → Nat) : Prop := ∀ x, x < 192 → s x = sOf (f x) ∧ (s x = 4 → r x = f x)
def RB (b n : Nat → Nat) : Prop := ∀ x, x < 192 → ∀ m, m < 20 → n (20 * x + m) = if (b x).testBit m = true then 1 else 0
def Rl (a v : WW) : Prop := RA a v ∧ RT a v ∧ RH a v ∧ RK (a 25) (v 81) (a 1 4) ∧ RC a v ∧ RQ a v ∧ RF (a 51) (v 94) (v 95) ∧ RB (a 52) (v 96)
theorem RH.fr {a b v u : WW} (h : RH a v) (ea : ∀ k, 11 ≤ k ∧ k < 16 → b k = a k) (ev : ∀ k, k = 63 ∨ k = 64 ∨ k = 65 → u k = v k) : RH b u := by
  intro g hg
  rw [ea (11 + g) (by omega), ev 63 (by decide), ev 64 (by decide), ev 65 (by decide)]
  exact h g hg
theorem RF.set {f s r : Nat → Nat} (h : RF f s r) {x n m q : Nat} (e : m = sOf n) (e2 : m = 4 → q = n) : RF (va_up f x n) (va_up s x m) (va_up r x q) := by
  intro y hy
  unfold va_up
  by_cases z : y = x
  · simp only [z, if_true]; exact ⟨e, e2⟩
  · simp only [z, if_false]; exact h y hy
theorem RF.set1 {f s r : Nat → Nat} (h : RF f s r) {x n m : Nat} (e : m = sOf n) (e2 : m ≠ 4) : RF (va_up f x n) (va_up s x m) r := by
  intro y hy
  unfold va_up
  by_cases z : y = x
  · simp only [z, if_true]; exact ⟨e, fun q => absurd q e2⟩
  · simp only [z, if_false]; exact h y hy
theorem RB.mark {b n : Nat → Nat} (h : RB b n) {x m : Nat} (hm : m < 20) : RB (va_up b x (b x ||| 2 ^ m)) (va_up n (20 * x + m) 1) := by
  intro y hy k hk
  unfold va_up
  by_cases z : y = x
  · subst z
    simp only [if_true, fb_bit_set]
    by_cases e : k = m
    · subst e; simp
    · rw [if_neg (show ¬ 20 * y + k = 20 * y + m by omega), h y hy k hk]
      simp [e]
  · rw [if_neg z, if_neg (show ¬ 20 * y + k = 20 * x + m by omega)]
    exact h y hy k hk
theorem RK.le {k u : Nat → Nat} {now x : Nat} (h : RK k u now) (hx : x < 192) (hn : now ≤ 100000) (hk : k x ≤ 100999) : nI (u x) ≤ nI now ↔ k x ≤ now := by
  rcases h x hx with e | ⟨e1, e2 | e2⟩
  · rw [e, nI_leI (by omega) (by omega)]
  · rw [e2]
    refine ⟨fun _ => e1, fun _ => ?_⟩
    rw [Int32.le_iff_toInt_le, nI_toInt (n := now) (by omega)]
    have : (nI N1).toInt = -1 := by decide +kernel
    omega
  · rw [nI_leI (by omega) (by omega)]
    omega
theorem RA.q {a v : WW} (h : RA a v) (p : Nat × Nat) (hp : p ∈ EQA) : v p.1 = a p.2 := h.1 p hp
theorem FA.up {a b : WW} (h : FA a b) {k i n : Nat} (hk : 42 ≤ k ∧ k ≠ 50 ∨ k = 50 ∧ i ≠ 11 ∨ k = 1 ∨ k = 5 ∨ k = 25) : FA a (up2 b k i n) := by
  refine ⟨fun j j1 j2 j3 j4 j5 => ?_, fun g hg j hj => ?_, ?_⟩
  · rw [up2_k _ _ _ _ (show j ≠ k by omega)]; exact h.1 j j1 j2 j3 j4 j5
  · rw [up2_n _ _ _ _ (show 11 + g ≠ k by omega)]; exact h.2.1 g hg j hj
  · by_cases e : k = 50
    · subst e
      rw [up2_d _ _ _ _ (show 11 ≠ i by omega)]; exact h.2.2
    · rw [up2_n _ _ _ _ (show 50 ≠ k by omega)]; exact h.2.2
theorem Rl.mark {a v : WW} (h : Rl a v) {n x : Nat} (hn : n < 20) : Rl (up2 a 52 x (a 52 x ||| 2 ^ n)) (up2 v 96 (20 * x + n) 1) := by
  obtain ⟨h1, h2, h3, h4, h5, h6, h7, h8⟩ := h
  exact ⟨h1.fr ((FA.rf a).up (Or.inl (by decide))) ((FV.rf v).up rfl), h2, h3.fr (fun k hk => up2_k _ _ _ _ (by omega)) (fun k hk => up2_k _ _ _ _ (by omega)), h4, h5, h6, h7, h8.mark hn⟩
/-- a thing becomes null -/
theorem Rl.null {a v : WW} (h : Rl a v) (x : Nat) {n : Nat} (hn : sOf n = 4) : Rl (up2 a 51 x n) (up2 (up2 v 94 x 4) 95 x n) := by
  obtain ⟨h1, h2, h3, h4, h5, h6, h7, h8⟩ := h
  exact ⟨h1.fr ((FA.rf a).up (Or.inl (by decide))) (((FV.rf v).up rfl).up rfl), h2, h3.fr (fun k hk => up2_k _ _ _ _ (by omega)) (fun k hk => by rw [up2_k _ _ _ _ (by omega), up2_k _ _ _ _ (by omega)]), h4, h5, h6, h7.set hn.symm (fun _ => rfl), h8⟩
theorem Rl.fate {a v : WW} (h : Rl a v) (x : Nat) {n m : Nat} (hn : m = sOf n) (hm : m ≠ 4) : Rl (up2 a 51 x n) (up2 v 94 x m) := by
  obtain ⟨h1, h2, h3, h4, h5, h6, h7, h8⟩ := h
  exact ⟨h1.fr ((FA.rf a).up (Or.inl (by decide))) ((FV.rf v).up rfl), h2, h3.fr (fun k hk => up2_k _ _ _ _ (by omega)) (fun k hk => up2_k _ _ _ _ (by omega)), h4, h5, h6, h7.set1 hn hm, h8⟩
theorem Rl.wait {a v : WW} (h : Rl a v) (x g z : Nat) : Rl (up2 (up2 (up2 (up2 a 51 x 11) 53 (a 50 1) x) 50 1 (a 50 1 + 1)) 54 g z) (up2 (up2 (up2 (up2 v 94 x 1) 97 (v 57 47) x) 57 47 (v 57 47 + 1)) 57 50 (v 57 50 + 1)) := by
  obtain ⟨h1, h2, h3, h4, h5, h6, h7, h8⟩ := h
  refine ⟨h1.fr ((((FA.rf a).up (Or.inl (by decide))).up (Or.inl (by decide))).up (Or.inr (Or.inl (by decide))) |>.up (Or.inl (by decide))) (((((FV.rf v).up rfl).up rfl).up rfl).up rfl), h2, h3.fr (fun k hk => by rw [up2_k _ _ _ _ (by omega), up2_k _ _ _ _ (by omega), up2_k _ _ _ _ (by omega), up2_k _ _ _ _ (by omega)]) (fun k hk => by rw [up2_k _ _ _ _ (by omega), up2_k _ _ _ _ (by omega), up2_k _ _ _ _ (by omega), up2_k _ _ _ _ (by omega)]), h4, h5, ⟨?_, ?_, ?_⟩, h7.set1 (by decide) (by decide), h8⟩
  · show va_up (v 97) (v 57 47) x = va_up (a 53) (a 50 1) x
    rw [h6.1, h6.2.1]
  · show v 57 47 + 1 = a 50 1 + 1
    rw [h6.2.1]
  · show v 57 50 + 1 = a 50 1 + 1
    rw [h6.2.2]
theorem amk_mi {w : WW} (M : MI w) {k n x : Nat} (ho : OKn w k n x) : MI (amk w n x) := by
  have hn : n < 20 := Nat.lt_of_lt_of_le ho.1 M.2.1.1
  exact M.need (M.2.2.2.1.mk2 hn ho.2.1) (M.2.2.2.2.2.2.2.2.mk2 ho.1 ho.2.2.1) ((FRN.rf w).mark n x).1
def MNeedS (d k : Nat) : Prop := ∀ (n x : Nat) (a v : WW) (τ : Nat → Nat → Int64) (Post : Option Value → Sto → Prop), MI a → OKn a k n x → Rl a v → (∀ v', Rl (need k n x a) v' → FV v v' → Post none (stt (nw v') τ)) → Ex (d + 2 * k + 2) 103 [.ref 57, .int (nI x), .int (nI n)] (stt (nw v) τ) 0 0 Post
def MFolS (d k : Nat) : Prop := ∀ (n x : Nat) (a v : WW) (τ : Nat → Nat → Int64) (Post : Option Value → Sto → Prop), MI a → OKn a (k + 1) n x → Rl a v → (∀ v', Rl (fol k n x a a) v' → FV v v' → Post none (stt (nw v') τ)) → Ex (d + 2 * k + 3) 105 [.ref 57, .int (nI x), .int (nI n)] (stt (nw v) τ) 0 0 Post
set_option maxRecDepth 20000 in
theorem m_103 {d k : Nat} (hF : MFolS d k) : MNeedS d (k + 1) := by
  intro n x a v τ Post M ho hR hp
  have hn : n < 20 := Nat.lt_of_lt_of_le ho.1 M.2.1.1
  have hx := ho.2.1
  have e96 := hR.2.2.2.2.2.2.2 x hx n hn
  have b96 : v 96 (20 * x + n) ≤ 1 := by rw [e96]; split <;> omega
  have e94 := (hR.2.2.2.2.2.2.1 x hx).1
  have b94 := sOf_le (a 51 x)
  have hr1 := hR.1.2.2.2.2.1
  have hr2 := hR.1.2.2.2.2.2
  have h57 := hR.2.1.1
  have hK := M.2.2.1
  have hkle : nI (v 81 x) ≤ nI (v 57 1) ↔ a 25 x ≤ a 1 4 := by rw [h57]; exact hR.2.2.2.1.le hx hK.1 (hK.2 x hx)
  have Ma := amk_mi M ho
  have e1 := ((FRN.rf a).mark n x).1
  refine en_103 (Nat.le_of_ble_eq_true rfl) ?_
  show RU_103 (d + 2 * k + 3) (0, 0) Post 0 ([(0, .ref 57), (1, .int (nI x)), (2, .int (nI n))]) ([]) (stt (nw v) τ) 0 0
  refine R_seg sg_103_0 sk_103_0 (pc' := 10) (lv' := [(0, .ref 57), (1, .int (nI x)), (2, .int (nI n))]) (st' := [.int ((20 * (nI x)) + (nI n)), .ref 96]) (S' := stt (nw v) τ) (kc' := 0) (ks' := 0) rfl ⟨trivial, rfl, trivial, trivial, trivial, trivial, trivial, trivial⟩ ?_
  refine R_bald ca_103_10 (j := 20 * x + n) rfl (by simp only [nl_0, nl_1, nl_2, nl_3, nl_4, nl_5, nl_6, nl_8, nl_20, nl_31, nl_32, pk_mul, nI_add]) (by omega) ?_
  refine R_if ck_103_11 (fun (c_11 : (nI (v 96 (20 * x + n))) = 0) => ?_) (fun (c_11 : ¬ (nI (v 96 (20 * x + n))) = 0) => ?_)
  · have c_11 : (v 96 (20 * x + n)) = 0 := (nI_eq (a := (v 96 (20 * x + n))) (b := 0) (by omega) (by omega)).mp c_11
    have hbit : ¬ (a 52 x).testBit n = true := by intro z; rw [z] at e96; rw [e96] at c_11; exact absurd c_11 (by decide)
    have key : ∀ v2, Rl (amk a n x) v2 → FV v v2 → RU_103 (d + 2 * k + 3) (0, 0) Post 124 ([(0, .ref 57), (1, .int (nI x)), (2, .int (nI n))]) ([]) (stt (nw v2) τ) 0 0 := by
      intro v2 hR2 hF2
      have e94b := (hR2.2.2.2.2.2.2.1 x hx).1
      have b94b := sOf_le (amk a n x 51 x)
      refine R_seg sg_103_124 sk_103_124 (pc' := 129) (lv' := [(0, .ref 57), (1, .int (nI x)), (2, .int (nI n))]) (st' := [.int (nI x), .ref 94]) (S' := stt (nw v2) τ) (kc' := 0) (ks' := 0) rfl ⟨trivial, rfl, trivial, trivial⟩ ?_
      refine R_iald ca_103_129 (j := x) rfl rfl (by omega) ?_
      refine R_seg sg_103_130 sk_103_130 (pc' := 131) (lv' := [(0, .ref 57), (1, .int (nI x)), (2, .int (nI n))]) (st' := [.int 3, .int (nI (v2 94 x))]) (S' := stt (nw v2) τ) (kc' := 0) (ks' := 0) rfl ⟨trivial, trivial⟩ ?_
      refine R_icmp ck_103_131 (fun (c_131 : ¬ (nI (v2 94 x)) = 3) => ?_) (fun (c_131 : ¬ ¬ (nI (v2 94 x)) = 3) => ?_)
      · have c_131 : ¬ (v2 94 x) = 3 := fun zq => c_131 ((nI_eq (a := (v2 94 x)) (b := 3) (by omega) (by omega)).mpr zq)
        have c_131 : ¬ amk a n x 51 x = 10 := fun z => c_131 (by rw [e94b]; exact sOf_3.mpr z)
        refine R_ret ck_103_140 rfl ?_
        exact hp v2 (by rw [need_s, if_neg hbit, if_neg c_131]; exact hR2) hF2
      · have c_131 : (v2 94 x) = 3 := (nI_eq (a := (v2 94 x)) (b := 3) (by omega) (by omega)).mp (Classical.not_not.mp c_131)
        have c_131 : amk a n x 51 x = 10 := sOf_3.mp (by rw [← e94b]; exact c_131)
        refine R_seg sg_103_134 sk_103_134 (pc' := 137) (lv' := [(0, .ref 57), (1, .int (nI x)), (2, .int (nI n))]) (st' := [.int (nI n), .int (nI x), .ref 57]) (S' := stt (nw v2) τ) (kc' := 0) (ks' := 0) rfl ⟨trivial, trivial, trivial, trivial⟩ ?_
        refine R_virt ck_103_137 57 [.int (nI x), .int (nI n)] 0 0 (r := []) rfl rfl rfl (Nat.le_of_ble_eq_true rfl) (Nat.le_refl _) (Nat.le_refl _) ?_
        refine hF n x (amk a n x) v2 τ _ Ma (ho.fr e1) hR2 (fun v3 hR3 hF3 => ?_)
        show RU_103 (d + 2 * k + 3) (0, 0) Post 140 ([(0, .ref 57), (1, .int (nI x)), (2, .int (nI n))]) ([]) (stt (nw v3) τ) 0 0
        refine R_ret ck_103_140 rfl ?_
        exact hp v3 (by rw [need_s, if_neg hbit, if_pos c_131, ← fol_fr e1]; exact hR3) (hF2.tr hF3)
    refine R_seg sg_103_15 sk_103_15 (pc' := 26) (lv' := [(0, .ref 57), (1, .int (nI x)), (2, .int (nI n))]) (st' := [.int 1, .int ((20 * (nI x)) + (nI n)), .ref 96]) (S' := stt (nw v) τ) (kc' := 0) (ks' := 0) rfl ⟨trivial, rfl, trivial, trivial, trivial, trivial, trivial, trivial, trivial⟩ ?_
    refine R_zast ca_103_26 (j := 20 * x + n) rfl (by simp only [nl_0, nl_1, nl_2, nl_3, nl_4, nl_5, nl_6, nl_8, nl_20, nl_31, nl_32, pk_mul, nI_add]) (by omega) rfl ?_
    show RU_103 (d + 2 * k + 3) (0, 0) Post 27 ([(0, .ref 57), (1, .int (nI x)), (2, .int (nI n))]) ([]) (stt (up2 (nw v) 96 (20 * x + n) 1) τ) 0 0
    rw [nw_up (w := v) (k := 96) (i := (20 * x + n)) (v := 1) (n := 1) rfl]
    refine R_seg sg_103_27 sk_103_27 (pc' := 32) (lv' := [(0, .ref 57), (1, .int (nI x)), (2, .int (nI n))]) (st' := [.int (nI x), .ref 94]) (S' := stt (nw (up2 v 96 (20 * x + n) 1)) τ) (kc' := 0) (ks' := 0) rfl ⟨trivial, rfl, trivial, trivial⟩ ?_
    refine R_iald ca_103_32 (j := x) rfl rfl (by omega) ?_
    refine R_if ck_103_33 (fun (c_33 : ¬ (nI (v 94 x)) = 0) => ?_) (fun (c_33 : ¬ ¬ (nI (v 94 x)) = 0) => ?_)
    · have c_33 : ¬ (v 94 x) = 0 := fun zq => c_33 ((nI_eq (a := (v 94 x)) (b := 0) (by omega) (by omega)).mpr zq)
      have c_33 : ¬ a 51 x = 0 := fun z => c_33 (by rw [e94]; exact sOf_0.mpr z)
      exact key _ (by rw [show amk a n x = up2 a 52 x (a 52 x ||| 2 ^ n) from by unfold amk; rw [if_neg c_33]]; exact hR.mark hn) ((FV.rf v).up rfl)
    · have c_33 : (v 94 x) = 0 := (nI_eq (a := (v 94 x)) (b := 0) (by omega) (by omega)).mp (Classical.not_not.mp c_33)
      have c_33 : a 51 x = 0 := sOf_0.mp (by rw [← e94]; exact c_33)
      refine R_seg sg_103_36 sk_103_36 (pc' := 44) (lv' := [(0, .ref 57), (1, .int (nI x)), (2, .int (nI n))]) (st' := [.int (nI (v 57 49)), .ref 82]) (S' := stt (nw (up2 v 96 (20 * x + n) 1)) τ) (kc' := 0) (ks' := 0) rfl ⟨trivial, rfl, trivial, rfl, trivial⟩ ?_
      refine R_iald ca_103_44 (j := v 57 49) rfl rfl (by omega) ?_
      refine R_seg sg_103_45 sk_103_45 (pc' := 52) (lv' := [(0, .ref 57), (1, .int (nI x)), (2, .int (nI n))]) (st' := [.int (((nI (v 82 (v 57 49))) >>> (((nI x) / 32) &&& 31)) &&& 1)]) (S' := stt (nw (up2 v 96 (20 * x + n) 1)) τ) (kc' := 0) (ks' := 0) rfl ⟨trivial, trivial, (by decide), trivial, trivial, trivial, trivial⟩ ?_
      rw [show nI x / 32 = nI (x / 32) from pk_div (d := 32) (by omega) (by omega) (by omega)]
      refine R_if ck_103_52 (fun (c_52 : ¬ (((nI (v 82 (v 57 49))) >>> ((nI (x / 32)) &&& 31)) &&& 1) = 0) => ?_) (fun (c_52 : ¬ ¬ (((nI (v 82 (v 57 49))) >>> ((nI (x / 32)) &&& 31)) &&& 1) = 0) => ?_)
      · have c_52 : ¬ (nI (a 50 11) >>> (nI (x / 32) &&& 31)) &&& 1 = 0 := by rw [← hr1]; exact c_52
        refine R_seg sg_103_64 sk_103_64 (pc' := 69) (lv' := [(0, .ref 57), (1, .int (nI x)), (2, .int (nI n))]) (st' := [.int (nI x), .ref 81]) (S' := stt (nw (up2 v 96 (20 * x + n) 1)) τ) (kc' := 0) (ks' := 0) rfl ⟨trivial, rfl, trivial, trivial⟩ ?_
        refine R_iald ca_103_69 (j := x) rfl rfl (by omega) ?_
        refine R_seg sg_103_70 sk_103_70 (pc' := 74) (lv' := [(0, .ref 57), (1, .int (nI x)), (2, .int (nI n))]) (st' := [.int (nI (v 57 1)), .int (nI (v 81 x))]) (S' := stt (nw (up2 v 96 (20 * x + n) 1)) τ) (kc' := 0) (ks' := 0) rfl ⟨trivial, rfl, trivial⟩ ?_
        skip
        refine R_icmp ck_103_74 (fun (c_74 : (nI (v 81 x)) ≤ (nI (v 57 1))) => ?_) (fun (c_74 : ¬ (nI (v 81 x)) ≤ (nI (v 57 1))) => ?_)
        · skip
          have c_74 : a 25 x ≤ a 1 4 := hkle.mp c_74
          have h47 := hR.2.2.2.2.2.1.2.1
          have a50 := NIb.lt M.2.2.2.1.2.1 hx c_33
          refine R_seg sg_103_87 sk_103_87 (pc' := 93) (lv' := [(0, .ref 57), (1, .int (nI x)), (2, .int (nI n))]) (st' := [.int 1, .int (nI x), .ref 94]) (S' := stt (nw (up2 v 96 (20 * x + n) 1)) τ) (kc' := 0) (ks' := 0) rfl ⟨trivial, rfl, trivial, trivial, trivial⟩ ?_
          refine R_iast ca_103_93 (j := x) rfl rfl (by omega) ?_
          show RU_103 (d + 2 * k + 3) (0, 0) Post 94 ([(0, .ref 57), (1, .int (nI x)), (2, .int (nI n))]) ([]) (stt (up2 (nw (up2 v 96 (20 * x + n) 1)) 94 x 1) τ) 0 0
          rw [nw_up (w := up2 v 96 (20 * x + n) 1) (k := 94) (i := x) (v := 1) (n := 1) rfl]
          refine R_seg sg_103_94 sk_103_94 (pc' := 103) (lv' := [(0, .ref 57), (1, .int (nI x)), (2, .int (nI n))]) (st' := [.int (nI x), .int (nI (v 57 47)), .ref 97]) (S' := stt (nw (up2 (up2 v 96 (20 * x + n) 1) 94 x 1)) τ) (kc' := 0) (ks' := 0) rfl ⟨trivial, rfl, trivial, rfl, trivial, trivial⟩ ?_
          refine R_iast ca_103_103 (j := v 57 47) rfl rfl (by omega) ?_
          show RU_103 (d + 2 * k + 3) (0, 0) Post 104 ([(0, .ref 57), (1, .int (nI x)), (2, .int (nI n))]) ([]) (stt (up2 (nw (up2 (up2 v 96 (20 * x + n) 1) 94 x 1)) 97 (v 57 47) (nI x)) τ) 0 0
          rw [nw_up (w := up2 (up2 v 96 (20 * x + n) 1) 94 x 1) (k := 97) (i := (v 57 47)) (v := nI x) (n := x) rfl]
          refine R_seg sg_103_104 sk_103_104 (pc' := 124) (lv' := [(0, .ref 57), (1, .int (nI x)), (2, .int (nI n))]) (st' := []) (S' := stt (up2 (up2 (nw (up2 (up2 (up2 v 96 (20 * x + n) 1) 94 x 1) 97 (v 57 47) x)) 57 47 ((nI (v 57 47)) + 1)) 57 50 ((nI (v 57 50)) + 1)) τ) (kc' := 0) (ks' := 0) rfl ⟨trivial, rfl, rfl, trivial, trivial, ⟨rfl, ⟨rfl, rfl⟩⟩, trivial, rfl, rfl, trivial, trivial, ⟨rfl, ⟨rfl, rfl⟩⟩, trivial⟩ ?_
          show RU_103 (d + 2 * k + 3) (0, 0) Post 124 ([(0, .ref 57), (1, .int (nI x)), (2, .int (nI n))]) ([]) (stt (up2 (up2 (nw (up2 (up2 (up2 v 96 (20 * x + n) 1) 94 x 1) 97 (v 57 47) x)) 57 47 ((nI (v 57 47)) + 1)) 57 50 ((nI (v 57 50)) + 1)) τ) 0 0
          rw [nw_up (w := up2 (up2 (up2 v 96 (20 * x + n) 1) 94 x 1) 97 (v 57 47) x) (k := 57) (i := 47) (v := (nI (v 57 47)) + 1) (n := (v 57 47) + 1) (by simp only [nl_0, nl_1, nl_2, nl_3, nl_4, nl_5, nl_6, nl_8, nl_20, nl_31, nl_32, pk_mul, nI_add])]
          rw [nw_up (w := up2 (up2 (up2 (up2 v 96 (20 * x + n) 1) 94 x 1) 97 (v 57 47) x) 57 47 ((v 57 47) + 1)) (k := 57) (i := 50) (v := (nI (v 57 50)) + 1) (n := (v 57 50) + 1) (by simp only [nl_0, nl_1, nl_2, nl_3, nl_4, nl_5, nl_6, nl_8, nl_20, nl_31, nl_32, pk_mul, nI_add])]
          have hmk : amk a n x = aMeet (up2 a 52 x (a 52 x ||| 2 ^ n)) x := by unfold amk; rw [if_pos c_33]
          exact key _ (by rw [hmk]; unfold aMeet; rw [if_neg (show ¬ (nI ((up2 a 52 x (a 52 x ||| 2 ^ n)) 50 11) >>> (nI (x / 32) &&& 31)) &&& 1 = 0 from c_52), if_pos (show (up2 a 52 x (a 52 x ||| 2 ^ n)) 25 x ≤ (up2 a 52 x (a 52 x ||| 2 ^ n)) 1 4 from c_74)]; exact (hR.mark hn).wait x _ _) (((((((FV.rf v).up rfl).up rfl).up rfl).up rfl).up rfl))
        · skip
          have c_74 : ¬ a 25 x ≤ a 1 4 := fun z => c_74 (hkle.mpr z)
          refine R_seg sg_103_77 sk_103_77 (pc' := 83) (lv' := [(0, .ref 57), (1, .int (nI x)), (2, .int (nI n))]) (st' := [.int 3, .int (nI x), .ref 94]) (S' := stt (nw (up2 v 96 (20 * x + n) 1)) τ) (kc' := 0) (ks' := 0) rfl ⟨trivial, rfl, trivial, trivial, trivial⟩ ?_
          refine R_iast ca_103_83 (j := x) rfl rfl (by omega) ?_
          show RU_103 (d + 2 * k + 3) (0, 0) Post 84 ([(0, .ref 57), (1, .int (nI x)), (2, .int (nI n))]) ([]) (stt (up2 (nw (up2 v 96 (20 * x + n) 1)) 94 x 3) τ) 0 0
          rw [nw_up (w := up2 v 96 (20 * x + n) 1) (k := 94) (i := x) (v := 3) (n := 3) rfl]
          refine R_goto ck_103_84 ?_
          have hmk : amk a n x = aMeet (up2 a 52 x (a 52 x ||| 2 ^ n)) x := by unfold amk; rw [if_pos c_33]
          exact key _ (by rw [hmk]; unfold aMeet; rw [if_neg (show ¬ (nI ((up2 a 52 x (a 52 x ||| 2 ^ n)) 50 11) >>> (nI (x / 32) &&& 31)) &&& 1 = 0 from c_52), if_neg (show ¬ (up2 a 52 x (a 52 x ||| 2 ^ n)) 25 x ≤ (up2 a 52 x (a 52 x ||| 2 ^ n)) 1 4 from c_74)]; exact (hR.mark hn).fate x rfl (by decide)) (((FV.rf v).up rfl).up rfl)
      · have c_52 : (nI (a 50 11) >>> (nI (x / 32) &&& 31)) &&& 1 = 0 := by rw [← hr1]; exact Classical.not_not.mp c_52
        refine R_seg sg_103_55 sk_103_55 (pc' := 58) (lv' := [(0, .ref 57), (1, .int (nI x)), (2, .int (nI n))]) (st' := [.int 1, .int (nI x), .ref 57]) (S' := stt (nw (up2 v 96 (20 * x + n) 1)) τ) (kc' := 0) (ks' := 0) rfl ⟨trivial, trivial, trivial, trivial⟩ ?_
        refine R_virt ck_103_58 57 [.int (nI x), .int 1] 0 0 (r := []) rfl rfl rfl (Nat.le_of_ble_eq_true rfl) (Nat.le_refl _) (Nat.le_refl _) ?_
        refine x_104 (d := d + 2 * k + 2) (σ := nw (up2 v 96 (20 * x + n) 1)) hx ?_
        rw [nw_up (v := 4) (n := 4) rfl, nw_up (v := 1) (n := 1) rfl]
        show RU_103 (d + 2 * k + 3) (0, 0) Post 61 ([(0, .ref 57), (1, .int (nI x)), (2, .int (nI n))]) ([]) (stt (nw (up2 (up2 (up2 v 96 (20 * x + n) 1) 94 x 4) 95 x 1)) τ) 0 0
        refine R_goto ck_103_61 ?_
        have hmk : amk a n x = aMeet (up2 a 52 x (a 52 x ||| 2 ^ n)) x := by unfold amk; rw [if_pos c_33]
        exact key _ (by rw [hmk]; unfold aMeet; rw [if_pos (show (nI ((up2 a 52 x (a 52 x ||| 2 ^ n)) 50 11) >>> (nI (x / 32) &&& 31)) &&& 1 = 0 from c_52)]; exact (hR.mark hn).null x rfl) ((((FV.rf v).up rfl).up rfl).up rfl)
  · have c_11 : ¬ (v 96 (20 * x + n)) = 0 := fun zq => c_11 ((nI_eq (a := (v 96 (20 * x + n))) (b := 0) (by omega) (by omega)).mpr zq)
    refine R_ret ck_103_14 rfl ?_
    exact hp v (by rw [need_s, if_pos (by rcases Bool.eq_false_or_eq_true ((a 52 x).testBit n) with z | z; exact z; rw [z] at e96; exact absurd e96 c_11)]; exact hR) (FV.rf v)
set_option maxRecDepth 20000 in
theorem ml_105i {d k n x i : Nat} {a u0 v0 : WW} {τ : Nat → Nat → Int64} {Post : Option Value → Sto → Prop} (hN : MNeedS d k) (M : MI a) (ho : OKn a (k + 1) n x) (hi : i < a 37 n) (hkd : a 20 (x / 32 * 4 + a 38 (n * 6 + i)) = 2) (M0 : MI u0) (hf0 : FRN a u0) (hk : ∀ v, Rl (folS k n x a i u0) v → FV v0 v → RU_105 (d + 2 * k + 2) (0, 0) Post 164 [(7, .int (nI (lcw a x (a 38 (n * 6 + i))))), (6, .int (nI (a 39 (n * 6 + i)))), (5, .int (nI (x / 32 * 4 + a 38 (n * 6 + i)))), (4, .int (nI (a 38 (n * 6 + i)))), (3, .int (nI i)), (0, .ref 57), (1, .int (nI x)), (2, .int (nI n))] [] (stt (nw v) τ) 0 0) : ∀ (nn : Nat) (j : Nat) (u v : WW), j ≤ lcw a x (a 38 (n * 6 + i)) → u = itr (fun j v => need k (a 39 (n * 6 + i)) (lkw a x (a 38 (n * 6 + i)) j) v) j u0 → Rl u v → FV v0 v → lcw a x (a 38 (n * 6 + i)) - j < nn → RU_105 (d + 2 * k + 2) (0, 0) Post 120 [(7, .int (nI j)), (6, .int (nI (a 39 (n * 6 + i)))), (5, .int (nI (x / 32 * 4 + a 38 (n * 6 + i)))), (4, .int (nI (a 38 (n * 6 + i)))), (3, .int (nI i)), (0, .ref 57), (1, .int (nI x)), (2, .int (nI n))] [] (stt (nw v) τ) 0 0 := by
  intro nn
  induction nn with
  | zero => intro j u v hj hu hR hV hms; exact absurd hms (by omega)
  | succ nn ih =>
    intro j u v hj hu hR hV hms
    have hx := ho.2.1
    have ht := M.2.1.2 n ho.1
    have hT1 := M.2.1.1
    have ht1 := ht.1
    have hn1 := ho.1
    have hS := M.1
    have h38 : a 38 (n * 6 + i) < 4 := (ht.2 i hi).1
    have hl := lcw_le hS hx h38
    have hq : MI u ∧ FRN a u := by
      rw [hu]
      refine itr_ind (fun _ v => MI v ∧ FRN a v) ⟨M0, hf0⟩ j (fun j2 b hj2 hb => ?_)
      have z := need_mi hb.1 ((ho.child hS M.2.1 hi (show j2 < lcw a x (a 38 (n * 6 + i)) by omega)).fr hb.2.1)
      exact ⟨z.1, hb.2.tr z.2⟩
    obtain ⟨Mu, hfr⟩ := hq
    have e73 := hR.1.q (73, 21) (by decide)
    have e79 := hR.1.q (79, 28) (by decide)
    have e74 := hR.1.q (74, 22) (by decide)
    have e80 := hR.1.q (80, 29) (by decide)
    have e21 := hfr.1 21 (by decide)
    have e28 := hfr.1 28 (by decide)
    have e22 := hfr.1 22 (by decide)
    have e29 := hfr.1 29 (by decide)
    have s1 := hS.2.1 (x / 32 * 4 + a 38 (n * 6 + i)) (by omega)
    have s2 := hS.2.2 (x * 4 + a 38 (n * 6 + i)) (by omega)
    have hmany : (if a 22 (x / 32 * 4 + a 38 (n * 6 + i)) ≤ a 28 (x * 4 + a 38 (n * 6 + i)) then a 22 (x / 32 * 4 + a 38 (n * 6 + i)) else a 28 (x * 4 + a 38 (n * 6 + i))) = lcw a x (a 38 (n * 6 + i)) := by unfold lcw; rw [if_neg (show ¬ a 20 (x / 32 * 4 + a 38 (n * 6 + i)) = 1 by omega), if_pos hkd]; (repeat' split) <;> omega
    refine R_seg sg_105_120 sk_105_120 (pc' := 126) (lv' := [(7, .int (nI j)), (6, .int (nI (a 39 (n * 6 + i)))), (5, .int (nI (x / 32 * 4 + a 38 (n * 6 + i)))), (4, .int (nI (a 38 (n * 6 + i)))), (3, .int (nI i)), (0, .ref 57), (1, .int (nI x)), (2, .int (nI n))]) (st' := [.int (nI (a 38 (n * 6 + i))), .int (nI x), .ref 57, .int (nI j)]) (S' := stt (nw v) τ) (kc' := 0) (ks' := 0) rfl ⟨trivial, trivial, trivial, trivial, trivial⟩ ?_
    refine R_virt ck_105_126 57 [.int (nI x), .int (nI (a 38 (n * 6 + i)))] 0 0 (r := [.int (nI j)]) rfl rfl rfl (Nat.le_of_ble_eq_true rfl) (Nat.le_refl _) (Nat.le_refl _) ?_
    refine x_106 (d := d + 2 * k + 1) (σ := nw v) (n := a 28 (x * 4 + a 38 (n * 6 + i))) (m := a 22 (x / 32 * 4 + a 38 (n * 6 + i))) hx h38 (by rw [← e28, ← e79]; rfl) (by omega) (by rw [← e22, ← e74]; rfl) (by omega) ?_
    rw [show (if a 22 (x / 32 * 4 + a 38 (n * 6 + i)) ≤ a 28 (x * 4 + a 38 (n * 6 + i)) then a 22 (x / 32 * 4 + a 38 (n * 6 + i)) else a 28 (x * 4 + a 38 (n * 6 + i))) = lcw a x (a 38 (n * 6 + i)) from hmany]
    show RU_105 (d + 2 * k + 2) (0, 0) Post 129 ([(7, .int (nI j)), (6, .int (nI (a 39 (n * 6 + i)))), (5, .int (nI (x / 32 * 4 + a 38 (n * 6 + i)))), (4, .int (nI (a 38 (n * 6 + i)))), (3, .int (nI i)), (0, .ref 57), (1, .int (nI x)), (2, .int (nI n))]) ([.int (nI (lcw a x (a 38 (n * 6 + i)))), .int (nI j)]) (stt (nw v) τ) 0 0
    refine R_icmp ck_105_129 (fun (c_129 : (nI (lcw a x (a 38 (n * 6 + i)))) ≤ (nI j)) => ?_) (fun (c_129 : ¬ (nI (lcw a x (a 38 (n * 6 + i)))) ≤ (nI j)) => ?_)
    · have c_129 : (lcw a x (a 38 (n * 6 + i))) ≤ j := (nI_leI (a := (lcw a x (a 38 (n * 6 + i)))) (b := j) (by omega) (by omega)).mp c_129
      have ej : j = lcw a x (a 38 (n * 6 + i)) := by omega
      subst ej
      subst hu
      exact hk v hR hV
    · have c_129 : j < (lcw a x (a 38 (n * 6 + i))) := Nat.not_le.mp (fun zq => c_129 ((nI_leI (a := (lcw a x (a 38 (n * 6 + i)))) (b := j) (by omega) (by omega)).mpr zq))
      refine R_seg sg_105_132 sk_105_132 (pc' := 141) (lv' := [(7, .int (nI j)), (6, .int (nI (a 39 (n * 6 + i)))), (5, .int (nI (x / 32 * 4 + a 38 (n * 6 + i)))), (4, .int (nI (a 38 (n * 6 + i)))), (3, .int (nI i)), (0, .ref 57), (1, .int (nI x)), (2, .int (nI n))]) (st' := [.int (nI (x / 32 * 4 + a 38 (n * 6 + i))), .ref 73, .int 32, .ref 57]) (S' := stt (nw v) τ) (kc' := 0) (ks' := 0) rfl ⟨trivial, trivial, trivial, rfl, trivial, trivial⟩ ?_
      refine R_iald ca_105_141 (j := x / 32 * 4 + a 38 (n * 6 + i)) rfl rfl (by omega) ?_
      refine R_seg sg_105_142 sk_105_142 (pc' := 149) (lv' := [(7, .int (nI j)), (6, .int (nI (a 39 (n * 6 + i)))), (5, .int (nI (x / 32 * 4 + a 38 (n * 6 + i)))), (4, .int (nI (a 38 (n * 6 + i)))), (3, .int (nI i)), (0, .ref 57), (1, .int (nI x)), (2, .int (nI n))]) (st' := [.int (nI j), .int (nI (a 38 (n * 6 + i))), .int (nI x), .ref 57, .int (32 * (nI (v 73 (x / 32 * 4 + a 38 (n * 6 + i))))), .ref 57]) (S' := stt (nw v) τ) (kc' := 0) (ks' := 0) rfl ⟨trivial, trivial, trivial, trivial, trivial, trivial⟩ ?_
      refine R_virt ck_105_149 57 [.int (nI x), .int (nI (a 38 (n * 6 + i))), .int (nI j)] 0 0 (r := [.int (32 * (nI (v 73 (x / 32 * 4 + a 38 (n * 6 + i))))), .ref 57]) rfl rfl rfl (Nat.le_of_ble_eq_true rfl) (Nat.le_refl _) (Nat.le_refl _) ?_
      refine x_107 (d := d + 2 * k + 1) (σ := nw v) hx h38 (j := j) (by omega) ?_
      rw [show nw v 80 (x * 4 + a 38 (n * 6 + i)) = nI (a 29 (x * 4 + a 38 (n * 6 + i))) from by rw [← e29, ← e80]; rfl]
      show RU_105 (d + 2 * k + 2) (0, 0) Post 152 ([(7, .int (nI j)), (6, .int (nI (a 39 (n * 6 + i)))), (5, .int (nI (x / 32 * 4 + a 38 (n * 6 + i)))), (4, .int (nI (a 38 (n * 6 + i)))), (3, .int (nI i)), (0, .ref 57), (1, .int (nI x)), (2, .int (nI n))]) ([.int (nI (rk (nI (a 29 (x * 4 + a 38 (n * 6 + i)))) j)), .int (32 * (nI (v 73 (x / 32 * 4 + a 38 (n * 6 + i))))), .ref 57]) (stt (nw v) τ) 0 0
      refine R_seg sg_105_152 sk_105_152 (pc' := 155) (lv' := [(7, .int (nI j)), (6, .int (nI (a 39 (n * 6 + i)))), (5, .int (nI (x / 32 * 4 + a 38 (n * 6 + i)))), (4, .int (nI (a 38 (n * 6 + i)))), (3, .int (nI i)), (0, .ref 57), (1, .int (nI x)), (2, .int (nI n))]) (st' := [.int (nI (a 39 (n * 6 + i))), .int ((32 * (nI (v 73 (x / 32 * 4 + a 38 (n * 6 + i))))) + (nI (rk (nI (a 29 (x * 4 + a 38 (n * 6 + i)))) j))), .ref 57]) (S' := stt (nw v) τ) (kc' := 0) (ks' := 0) rfl ⟨trivial, trivial, trivial⟩ ?_
      rw [show (32 : Int32) * nI (v 73 (x / 32 * 4 + a 38 (n * 6 + i))) + nI (rk (nI (a 29 (x * 4 + a 38 (n * 6 + i)))) j) = nI (lkw a x (a 38 (n * 6 + i)) j) from by rw [e73, e21]; unfold lkw; rw [if_neg (by omega)]; rw [show (32 : Int32) = nI 32 from rfl, pk_mul, nI_add, Nat.mul_comm]]
      refine R_virt ck_105_155 57 [.int (nI (lkw a x (a 38 (n * 6 + i)) j)), .int (nI (a 39 (n * 6 + i)))] 0 0 (r := []) rfl rfl rfl (Nat.le_of_ble_eq_true rfl) (Nat.le_refl _) (Nat.le_refl _) ?_
      refine hN (a 39 (n * 6 + i)) (lkw a x (a 38 (n * 6 + i)) j) u v τ _ Mu ((ho.child hS M.2.1 hi c_129).fr hfr.1) hR (fun v2 hR2 hF2 => ?_)
      show RU_105 (d + 2 * k + 2) (0, 0) Post 158 ([(7, .int (nI j)), (6, .int (nI (a 39 (n * 6 + i)))), (5, .int (nI (x / 32 * 4 + a 38 (n * 6 + i)))), (4, .int (nI (a 38 (n * 6 + i)))), (3, .int (nI i)), (0, .ref 57), (1, .int (nI x)), (2, .int (nI n))]) ([]) (stt (nw v2) τ) 0 0
      refine R_seg sg_105_158 sk_105_158 (pc' := 161) (lv' := [(7, .int ((nI j) + 1)), (6, .int (nI (a 39 (n * 6 + i)))), (5, .int (nI (x / 32 * 4 + a 38 (n * 6 + i)))), (4, .int (nI (a 38 (n * 6 + i)))), (3, .int (nI i)), (0, .ref 57), (1, .int (nI x)), (2, .int (nI n))]) (st' := []) (S' := stt (nw v2) τ) (kc' := 0) (ks' := 0) rfl ⟨(by decide), trivial⟩ ?_
      refine R_goto ck_105_161 ?_
      refine Runs.lv (lv := [(7, .int ((nI j) + 1)), (6, .int (nI (a 39 (n * 6 + i)))), (5, .int (nI (x / 32 * 4 + a 38 (n * 6 + i)))), (4, .int (nI (a 38 (n * 6 + i)))), (3, .int (nI i)), (0, .ref 57), (1, .int (nI x)), (2, .int (nI n))]) ?_ _ (lvS_l (show ([7, 6, 5, 4, 3, 0, 1, 2] : List Nat).Nodup from by decide) (by intro q hq; simp only [List.mem_cons, List.not_mem_nil, or_false] at hq; rcases hq with rfl | rfl | rfl | rfl | rfl | rfl | rfl | rfl <;> rfl))
      rw [nI_1 j]
      exact ih (j + 1) _ v2 (by omega) (by rw [itr_s, ← hu]) hR2 (hV.tr hF2) (by omega)
set_option maxRecDepth 20000 in
theorem ml_105 {d k n x : Nat} {a v0 : WW} {τ : Nat → Nat → Int64} {Post : Option Value → Sto → Prop} (hN : MNeedS d k) (M : MI a) (ho : OKn a (k + 1) n x) (hp : ∀ v, Rl (fol k n x a a) v → FV v0 v → Post none (stt (nw v) τ)) : ∀ (nn : Nat) (i : Nat) (u v : WW), i ≤ a 37 n → u = itr (folS k n x a) i a → Rl u v → FV v0 v → a 37 n - i < nn → RU_105 (d + 2 * k + 2) (0, 0) Post 2 [(3, .int (nI i)), (0, .ref 57), (1, .int (nI x)), (2, .int (nI n))] [] (stt (nw v) τ) 0 0 := by
  intro nn
  induction nn with
  | zero => intro i u v hi hu hR hV hms; exact absurd hms (by omega)
  | succ nn ih =>
    intro i u v hi hu hR hV hms
    have hx := ho.2.1
    have ht := M.2.1.2 n ho.1
    have hT1 := M.2.1.1
    have ht1 := ht.1
    have hn1 := ho.1
    have hS := M.1
    have hq : MI u ∧ FRN a u := by
      rw [hu]
      refine itr_ind (fun _ v => MI v ∧ FRN a v) ⟨M, FRN.rf a⟩ i (fun i2 b hi2 hb => ?_)
      refine itr_ind (fun _ v => MI v ∧ FRN a v) hb _ (fun j2 b hj2 hb => ?_)
      have z := need_mi hb.1 ((ho.child hS M.2.1 (show i2 < a 37 n by omega) hj2).fr hb.2.1)
      exact ⟨z.1, hb.2.tr z.2⟩
    obtain ⟨Mu, hfr⟩ := hq
    have e20 := hfr.1 20 (by decide)
    have e21 := hfr.1 21 (by decide)
    have e27 := hfr.1 27 (by decide)
    have e32 := hfr.1 32 (by decide)
    have e37 := hfr.1 37 (by decide)
    have e38 := hfr.1 38 (by decide)
    have e39 := hfr.1 39 (by decide)
    have e72 := hR.1.q (72, 20) (by decide)
    have e73 := hR.1.q (73, 21) (by decide)
    have e78 := hR.1.q (78, 27) (by decide)
    have hnu : n < u 32 7 := by rw [e32]; exact hn1
    have e89 : v 89 n = a 37 n := by rw [(hR.1.2.2.2.1.2 n hnu).2.1, e37]
    refine R_seg sg_105_2 sk_105_2 (pc' := 8) (lv' := [(3, .int (nI i)), (0, .ref 57), (1, .int (nI x)), (2, .int (nI n))]) (st' := [.int (nI n), .ref 89, .int (nI i)]) (S' := stt (nw v) τ) (kc' := 0) (ks' := 0) rfl ⟨trivial, trivial, rfl, trivial, trivial⟩ ?_
    refine R_iald ca_105_8 (j := n) rfl rfl (by omega) ?_
    show RU_105 (d + 2 * k + 2) (0, 0) Post 9 ([(3, .int (nI i)), (0, .ref 57), (1, .int (nI x)), (2, .int (nI n))]) ([.int (nI (v 89 n)), .int (nI i)]) (stt (nw v) τ) 0 0
    rw [e89]
    refine R_icmp ck_105_9 (fun (c_9 : (nI (a 37 n)) ≤ (nI i)) => ?_) (fun (c_9 : ¬ (nI (a 37 n)) ≤ (nI i)) => ?_)
    · have c_9 : (a 37 n) ≤ i := (nI_leI (a := (a 37 n)) (b := i) (by omega) (by omega)).mp c_9
      refine R_ret ck_105_170 rfl ?_
      have ei : i = a 37 n := by omega
      subst ei
      subst hu
      exact hp v hR hV
    · have c_9 : i < (a 37 n) := Nat.not_le.mp (fun zq => c_9 ((nI_leI (a := (a 37 n)) (b := i) (by omega) (by omega)).mpr zq))
      have e90 := (hR.1.2.2.2.1.2 n hnu).2.2 i (by rw [e37]; exact c_9) |>.1
      have e91 := (hR.1.2.2.2.1.2 n hnu).2.2 i (by rw [e37]; exact c_9) |>.2
      rw [e38] at e90
      rw [e39] at e91
      have h38 : a 38 (n * 6 + i) < 4 := (ht.2 i c_9).1
      have s1 := hS.2.1 (x / 32 * 4 + a 38 (n * 6 + i)) (by omega)
      have s2 := hS.2.2 (x * 4 + a 38 (n * 6 + i)) (by omega)
      have hl := lcw_le hS hx h38
      refine R_seg sg_105_12 sk_105_12 (pc' := 22) (lv' := [(3, .int (nI i)), (0, .ref 57), (1, .int (nI x)), (2, .int (nI n))]) (st' := [.int ((6 * (nI n)) + (nI i)), .ref 90]) (S' := stt (nw v) τ) (kc' := 0) (ks' := 0) rfl ⟨trivial, rfl, trivial, trivial, trivial, trivial, trivial, trivial⟩ ?_
      refine R_iald ca_105_22 (j := 6 * n + i) rfl (by first | (simp only [nl_0, nl_1, nl_2, nl_3, nl_4, nl_5, nl_6, nl_8, nl_20, nl_31, nl_32, pk_mul, nI_add]; done) | (simp only [nl_0, nl_1, nl_2, nl_3, nl_4, nl_5, nl_6, nl_8, nl_20, nl_31, nl_32, pk_mul, nI_add]; congr 1; omega)) (by omega) ?_
      show RU_105 (d + 2 * k + 2) (0, 0) Post 23 ([(3, .int (nI i)), (0, .ref 57), (1, .int (nI x)), (2, .int (nI n))]) ([.int (nI (v 90 (6 * n + i)))]) (stt (nw v) τ) 0 0
      rw [e90]
      refine R_seg sg_105_23 sk_105_23 (pc' := 46) (lv' := [(5, .int ((4 * ((nI x) / 32)) + (nI (a 38 (n * 6 + i))))), (4, .int (nI (a 38 (n * 6 + i)))), (3, .int (nI i)), (0, .ref 57), (1, .int (nI x)), (2, .int (nI n))]) (st' := [.int ((6 * (nI n)) + (nI i)), .ref 91]) (S' := stt (nw v) τ) (kc' := 0) (ks' := 0) rfl ⟨(by decide), trivial, trivial, trivial, (by decide), trivial, trivial, trivial, (by decide), trivial, rfl, trivial, trivial, trivial, trivial, trivial, trivial⟩ ?_
      rw [show (4 : Int32) * (nI x / 32) + nI (a 38 (n * 6 + i)) = nI (x / 32 * 4 + a 38 (n * 6 + i)) from by rw [show nI x / 32 = nI (x / 32) from pk_div (d := 32) (by omega) (by omega) (by omega), show (4 : Int32) = nI 4 from rfl, pk_mul, nI_add, Nat.mul_comm]]
      refine R_iald ca_105_46 (j := 6 * n + i) rfl (by first | (simp only [nl_0, nl_1, nl_2, nl_3, nl_4, nl_5, nl_6, nl_8, nl_20, nl_31, nl_32, pk_mul, nI_add]; done) | (simp only [nl_0, nl_1, nl_2, nl_3, nl_4, nl_5, nl_6, nl_8, nl_20, nl_31, nl_32, pk_mul, nI_add]; congr 1; omega)) (by omega) ?_
      show RU_105 (d + 2 * k + 2) (0, 0) Post 47 ([(5, .int (nI (x / 32 * 4 + a 38 (n * 6 + i)))), (4, .int (nI (a 38 (n * 6 + i)))), (3, .int (nI i)), (0, .ref 57), (1, .int (nI x)), (2, .int (nI n))]) ([.int (nI (v 91 (6 * n + i)))]) (stt (nw v) τ) 0 0
      rw [e91]
      refine R_seg sg_105_47 sk_105_47 (pc' := 55) (lv' := [(6, .int (nI (a 39 (n * 6 + i)))), (5, .int (nI (x / 32 * 4 + a 38 (n * 6 + i)))), (4, .int (nI (a 38 (n * 6 + i)))), (3, .int (nI i)), (0, .ref 57), (1, .int (nI x)), (2, .int (nI n))]) (st' := [.int (nI (x / 32 * 4 + a 38 (n * 6 + i))), .ref 72]) (S' := stt (nw v) τ) (kc' := 0) (ks' := 0) rfl ⟨(by decide), trivial, rfl, trivial, trivial⟩ ?_
      refine R_iald ca_105_55 (j := x / 32 * 4 + a 38 (n * 6 + i)) rfl rfl (by omega) ?_
      show RU_105 (d + 2 * k + 2) (0, 0) Post 56 ([(6, .int (nI (a 39 (n * 6 + i)))), (5, .int (nI (x / 32 * 4 + a 38 (n * 6 + i)))), (4, .int (nI (a 38 (n * 6 + i)))), (3, .int (nI i)), (0, .ref 57), (1, .int (nI x)), (2, .int (nI n))]) ([.int (nI (v 72 (x / 32 * 4 + a 38 (n * 6 + i))))]) (stt (nw v) τ) 0 0
      rw [e72, e20]
      refine R_seg sg_105_56 sk_105_56 (pc' := 57) (lv' := [(6, .int (nI (a 39 (n * 6 + i)))), (5, .int (nI (x / 32 * 4 + a 38 (n * 6 + i)))), (4, .int (nI (a 38 (n * 6 + i)))), (3, .int (nI i)), (0, .ref 57), (1, .int (nI x)), (2, .int (nI n))]) (st' := [.int 1, .int (nI (a 20 (x / 32 * 4 + a 38 (n * 6 + i))))]) (S' := stt (nw v) τ) (kc' := 0) (ks' := 0) rfl ⟨trivial, trivial⟩ ?_
      refine R_icmp ck_105_57 (fun (c_57 : ¬ (nI (a 20 (x / 32 * 4 + a 38 (n * 6 + i)))) = 1) => ?_) (fun (c_57 : ¬ ¬ (nI (a 20 (x / 32 * 4 + a 38 (n * 6 + i)))) = 1) => ?_)
      · have c_57 : ¬ (a 20 (x / 32 * 4 + a 38 (n * 6 + i))) = 1 := fun zq => c_57 ((nI_eq (a := (a 20 (x / 32 * 4 + a 38 (n * 6 + i)))) (b := 1) (by omega) (by omega)).mpr zq)
        skip
        refine R_seg sg_105_106 sk_105_106 (pc' := 112) (lv' := [(6, .int (nI (a 39 (n * 6 + i)))), (5, .int (nI (x / 32 * 4 + a 38 (n * 6 + i)))), (4, .int (nI (a 38 (n * 6 + i)))), (3, .int (nI i)), (0, .ref 57), (1, .int (nI x)), (2, .int (nI n))]) (st' := [.int (nI (x / 32 * 4 + a 38 (n * 6 + i))), .ref 72]) (S' := stt (nw v) τ) (kc' := 0) (ks' := 0) rfl ⟨trivial, rfl, trivial, trivial⟩ ?_
        refine R_iald ca_105_112 (j := x / 32 * 4 + a 38 (n * 6 + i)) rfl rfl (by omega) ?_
        show RU_105 (d + 2 * k + 2) (0, 0) Post 113 ([(6, .int (nI (a 39 (n * 6 + i)))), (5, .int (nI (x / 32 * 4 + a 38 (n * 6 + i)))), (4, .int (nI (a 38 (n * 6 + i)))), (3, .int (nI i)), (0, .ref 57), (1, .int (nI x)), (2, .int (nI n))]) ([.int (nI (v 72 (x / 32 * 4 + a 38 (n * 6 + i))))]) (stt (nw v) τ) 0 0
        rw [e72, e20]
        refine R_seg sg_105_113 sk_105_113 (pc' := 114) (lv' := [(6, .int (nI (a 39 (n * 6 + i)))), (5, .int (nI (x / 32 * 4 + a 38 (n * 6 + i)))), (4, .int (nI (a 38 (n * 6 + i)))), (3, .int (nI i)), (0, .ref 57), (1, .int (nI x)), (2, .int (nI n))]) (st' := [.int 2, .int (nI (a 20 (x / 32 * 4 + a 38 (n * 6 + i))))]) (S' := stt (nw v) τ) (kc' := 0) (ks' := 0) rfl ⟨trivial, trivial⟩ ?_
        refine R_icmp ck_105_114 (fun (c_114 : ¬ (nI (a 20 (x / 32 * 4 + a 38 (n * 6 + i)))) = 2) => ?_) (fun (c_114 : ¬ ¬ (nI (a 20 (x / 32 * 4 + a 38 (n * 6 + i)))) = 2) => ?_)
        · have c_114 : ¬ (a 20 (x / 32 * 4 + a 38 (n * 6 + i))) = 2 := fun zq => c_114 ((nI_eq (a := (a 20 (x / 32 * 4 + a 38 (n * 6 + i)))) (b := 2) (by omega) (by omega)).mpr zq)
          have hlc : lcw a x (a 38 (n * 6 + i)) = 0 := by first | exact hlc | (unfold lcw; rw [if_neg c_57, if_neg c_114])
          refine R_seg sg_105_164 sk_105_164 (pc' := 167) (lv' := [(3, .int ((nI i) + 1)), (6, .int (nI (a 39 (n * 6 + i)))), (5, .int (nI (x / 32 * 4 + a 38 (n * 6 + i)))), (4, .int (nI (a 38 (n * 6 + i)))), (0, .ref 57), (1, .int (nI x)), (2, .int (nI n))]) (st' := []) (S' := stt (nw v) τ) (kc' := 0) (ks' := 0) rfl ⟨(by decide), trivial⟩ ?_
          refine R_goto ck_105_167 ?_
          refine Runs.lv (lv := [(3, .int ((nI i) + 1)), (0, .ref 57), (1, .int (nI x)), (2, .int (nI n))]) ?_ _ (lvS_l (show ([3, 0, 1, 2] : List Nat).Nodup from by decide) (by intro q hq; simp only [List.mem_cons, List.not_mem_nil, or_false] at hq; rcases hq with rfl | rfl | rfl | rfl <;> rfl))
          rw [nI_1 i]
          exact ih (i + 1) _ v (by omega) (by rw [itr_s, ← hu]) (by unfold folS; rw [hlc]; exact hR) hV (by omega)
        · have c_114 : (a 20 (x / 32 * 4 + a 38 (n * 6 + i))) = 2 := (nI_eq (a := (a 20 (x / 32 * 4 + a 38 (n * 6 + i)))) (b := 2) (by omega) (by omega)).mp (Classical.not_not.mp c_114)
          skip
          refine R_seg sg_105_117 sk_105_117 (pc' := 120) (lv' := [(7, .int 0), (6, .int (nI (a 39 (n * 6 + i)))), (5, .int (nI (x / 32 * 4 + a 38 (n * 6 + i)))), (4, .int (nI (a 38 (n * 6 + i)))), (3, .int (nI i)), (0, .ref 57), (1, .int (nI x)), (2, .int (nI n))]) (st' := []) (S' := stt (nw v) τ) (kc' := 0) (ks' := 0) rfl ⟨trivial, (by decide), trivial⟩ ?_
          refine Runs.lv (lv := [(7, .int 0), (6, .int (nI (a 39 (n * 6 + i)))), (5, .int (nI (x / 32 * 4 + a 38 (n * 6 + i)))), (4, .int (nI (a 38 (n * 6 + i)))), (3, .int (nI i)), (0, .ref 57), (1, .int (nI x)), (2, .int (nI n))]) ?_ _ (lvS_l (show ([7, 6, 5, 4, 3, 0, 1, 2] : List Nat).Nodup from by decide) (by intro q hq; simp only [List.mem_cons, List.not_mem_nil, or_false] at hq; rcases hq with rfl | rfl | rfl | rfl | rfl | rfl | rfl | rfl <;> rfl))
          rw [← nI_0]
          refine ml_105i hN M ho c_9 c_114 Mu hfr (fun v3 hR3 hV3 => ?_) (lcw a x (a 38 (n * 6 + i)) + 1) 0 u v (Nat.zero_le _) rfl hR hV (by omega)
          refine R_seg sg_105_164 sk_105_164 (pc' := 167) (lv' := [(3, .int ((nI i) + 1)), (7, .int (nI (lcw a x (a 38 (n * 6 + i))))), (6, .int (nI (a 39 (n * 6 + i)))), (5, .int (nI (x / 32 * 4 + a 38 (n * 6 + i)))), (4, .int (nI (a 38 (n * 6 + i)))), (0, .ref 57), (1, .int (nI x)), (2, .int (nI n))]) (st' := []) (S' := stt (nw v3) τ) (kc' := 0) (ks' := 0) rfl ⟨(by decide), trivial⟩ ?_
          refine R_goto ck_105_167 ?_
          refine Runs.lv (lv := [(3, .int ((nI i) + 1)), (0, .ref 57), (1, .int (nI x)), (2, .int (nI n))]) ?_ _ (lvS_l (show ([3, 0, 1, 2] : List Nat).Nodup from by decide) (by intro q hq; simp only [List.mem_cons, List.not_mem_nil, or_false] at hq; rcases hq with rfl | rfl | rfl | rfl <;> rfl))
          rw [nI_1 i]
          exact ih (i + 1) _ v3 (by omega) (by rw [itr_s, ← hu]) hR3 hV3 (by omega)
      · have c_57 : (a 20 (x / 32 * 4 + a 38 (n * 6 + i))) = 1 := (nI_eq (a := (a 20 (x / 32 * 4 + a 38 (n * 6 + i)))) (b := 1) (by omega) (by omega)).mp (Classical.not_not.mp c_57)
        refine R_seg sg_105_60 sk_105_60 (pc' := 70) (lv' := [(6, .int (nI (a 39 (n * 6 + i)))), (5, .int (nI (x / 32 * 4 + a 38 (n * 6 + i)))), (4, .int (nI (a 38 (n * 6 + i)))), (3, .int (nI i)), (0, .ref 57), (1, .int (nI x)), (2, .int (nI n))]) (st' := [.int ((4 * (nI x)) + (nI (a 38 (n * 6 + i)))), .ref 78]) (S' := stt (nw v) τ) (kc' := 0) (ks' := 0) rfl ⟨trivial, rfl, trivial, trivial, trivial, trivial, trivial, trivial⟩ ?_
        refine R_iald ca_105_70 (j := x * 4 + a 38 (n * 6 + i)) rfl (by first | (simp only [nl_0, nl_1, nl_2, nl_3, nl_4, nl_5, nl_6, nl_8, nl_20, nl_31, nl_32, pk_mul, nI_add]; done) | (simp only [nl_0, nl_1, nl_2, nl_3, nl_4, nl_5, nl_6, nl_8, nl_20, nl_31, nl_32, pk_mul, nI_add]; congr 1; omega)) (by omega) ?_
        show RU_105 (d + 2 * k + 2) (0, 0) Post 71 ([(6, .int (nI (a 39 (n * 6 + i)))), (5, .int (nI (x / 32 * 4 + a 38 (n * 6 + i)))), (4, .int (nI (a 38 (n * 6 + i)))), (3, .int (nI i)), (0, .ref 57), (1, .int (nI x)), (2, .int (nI n))]) ([.int (nI (v 78 (x * 4 + a 38 (n * 6 + i))))]) (stt (nw v) τ) 0 0
        rw [e78, e27]
        refine R_seg sg_105_71 sk_105_71 (pc' := 72) (lv' := [(6, .int (nI (a 39 (n * 6 + i)))), (5, .int (nI (x / 32 * 4 + a 38 (n * 6 + i)))), (4, .int (nI (a 38 (n * 6 + i)))), (3, .int (nI i)), (0, .ref 57), (1, .int (nI x)), (2, .int (nI n))]) (st' := [.int (-1), .int (nI (a 27 (x * 4 + a 38 (n * 6 + i))))]) (S' := stt (nw v) τ) (kc' := 0) (ks' := 0) rfl ⟨trivial, trivial⟩ ?_
        refine R_icmp ck_105_72 (fun (c_72 : (nI (a 27 (x * 4 + a 38 (n * 6 + i)))) = (-1)) => ?_) (fun (c_72 : ¬ (nI (a 27 (x * 4 + a 38 (n * 6 + i)))) = (-1)) => ?_)
        · have c_72 : a 27 (x * 4 + a 38 (n * 6 + i)) = N1 := (nI_N1 (by omega)).mp c_72
          have hlc : lcw a x (a 38 (n * 6 + i)) = 0 := by unfold lcw; rw [if_pos c_57, if_pos c_72]
          refine R_seg sg_105_106 sk_105_106 (pc' := 112) (lv' := [(6, .int (nI (a 39 (n * 6 + i)))), (5, .int (nI (x / 32 * 4 + a 38 (n * 6 + i)))), (4, .int (nI (a 38 (n * 6 + i)))), (3, .int (nI i)), (0, .ref 57), (1, .int (nI x)), (2, .int (nI n))]) (st' := [.int (nI (x / 32 * 4 + a 38 (n * 6 + i))), .ref 72]) (S' := stt (nw v) τ) (kc' := 0) (ks' := 0) rfl ⟨trivial, rfl, trivial, trivial⟩ ?_
          refine R_iald ca_105_112 (j := x / 32 * 4 + a 38 (n * 6 + i)) rfl rfl (by omega) ?_
          show RU_105 (d + 2 * k + 2) (0, 0) Post 113 ([(6, .int (nI (a 39 (n * 6 + i)))), (5, .int (nI (x / 32 * 4 + a 38 (n * 6 + i)))), (4, .int (nI (a 38 (n * 6 + i)))), (3, .int (nI i)), (0, .ref 57), (1, .int (nI x)), (2, .int (nI n))]) ([.int (nI (v 72 (x / 32 * 4 + a 38 (n * 6 + i))))]) (stt (nw v) τ) 0 0
          rw [e72, e20]
          refine R_seg sg_105_113 sk_105_113 (pc' := 114) (lv' := [(6, .int (nI (a 39 (n * 6 + i)))), (5, .int (nI (x / 32 * 4 + a 38 (n * 6 + i)))), (4, .int (nI (a 38 (n * 6 + i)))), (3, .int (nI i)), (0, .ref 57), (1, .int (nI x)), (2, .int (nI n))]) (st' := [.int 2, .int (nI (a 20 (x / 32 * 4 + a 38 (n * 6 + i))))]) (S' := stt (nw v) τ) (kc' := 0) (ks' := 0) rfl ⟨trivial, trivial⟩ ?_
          refine R_icmp ck_105_114 (fun (c_114 : ¬ (nI (a 20 (x / 32 * 4 + a 38 (n * 6 + i)))) = 2) => ?_) (fun (c_114 : ¬ ¬ (nI (a 20 (x / 32 * 4 + a 38 (n * 6 + i)))) = 2) => ?_)
          · have c_114 : ¬ (a 20 (x / 32 * 4 + a 38 (n * 6 + i))) = 2 := fun zq => c_114 ((nI_eq (a := (a 20 (x / 32 * 4 + a 38 (n * 6 + i)))) (b := 2) (by omega) (by omega)).mpr zq)
            have hlc : lcw a x (a 38 (n * 6 + i)) = 0 := by first | exact hlc | (unfold lcw; rw [if_neg c_57, if_neg c_114])
            refine R_seg sg_105_164 sk_105_164 (pc' := 167) (lv' := [(3, .int ((nI i) + 1)), (6, .int (nI (a 39 (n * 6 + i)))), (5, .int (nI (x / 32 * 4 + a 38 (n * 6 + i)))), (4, .int (nI (a 38 (n * 6 + i)))), (0, .ref 57), (1, .int (nI x)), (2, .int (nI n))]) (st' := []) (S' := stt (nw v) τ) (kc' := 0) (ks' := 0) rfl ⟨(by decide), trivial⟩ ?_
            refine R_goto ck_105_167 ?_
            refine Runs.lv (lv := [(3, .int ((nI i) + 1)), (0, .ref 57), (1, .int (nI x)), (2, .int (nI n))]) ?_ _ (lvS_l (show ([3, 0, 1, 2] : List Nat).Nodup from by decide) (by intro q hq; simp only [List.mem_cons, List.not_mem_nil, or_false] at hq; rcases hq with rfl | rfl | rfl | rfl <;> rfl))
            rw [nI_1 i]
            exact ih (i + 1) _ v (by omega) (by rw [itr_s, ← hu]) (by unfold folS; rw [hlc]; exact hR) hV (by omega)
          · have c_114 : (a 20 (x / 32 * 4 + a 38 (n * 6 + i))) = 2 := (nI_eq (a := (a 20 (x / 32 * 4 + a 38 (n * 6 + i)))) (b := 2) (by omega) (by omega)).mp (Classical.not_not.mp c_114)
            exact absurd c_114 (by rw [c_57]; decide)
        · have c_72 : ¬ a 27 (x * 4 + a 38 (n * 6 + i)) = N1 := fun z => c_72 ((nI_N1 (by omega)).mpr z)
          have hlc : lcw a x (a 38 (n * 6 + i)) = 1 := by unfold lcw; rw [if_pos c_57, if_neg c_72]
          refine R_seg sg_105_75 sk_105_75 (pc' := 84) (lv' := [(6, .int (nI (a 39 (n * 6 + i)))), (5, .int (nI (x / 32 * 4 + a 38 (n * 6 + i)))), (4, .int (nI (a 38 (n * 6 + i)))), (3, .int (nI i)), (0, .ref 57), (1, .int (nI x)), (2, .int (nI n))]) (st' := [.int (nI (x / 32 * 4 + a 38 (n * 6 + i))), .ref 73, .int 32, .ref 57]) (S' := stt (nw v) τ) (kc' := 0) (ks' := 0) rfl ⟨trivial, trivial, trivial, rfl, trivial, trivial⟩ ?_
          refine R_iald ca_105_84 (j := x / 32 * 4 + a 38 (n * 6 + i)) rfl rfl (by omega) ?_
          refine R_seg sg_105_85 sk_105_85 (pc' := 96) (lv' := [(6, .int (nI (a 39 (n * 6 + i)))), (5, .int (nI (x / 32 * 4 + a 38 (n * 6 + i)))), (4, .int (nI (a 38 (n * 6 + i)))), (3, .int (nI i)), (0, .ref 57), (1, .int (nI x)), (2, .int (nI n))]) (st' := [.int ((4 * (nI x)) + (nI (a 38 (n * 6 + i)))), .ref 78, .int (32 * (nI (v 73 (x / 32 * 4 + a 38 (n * 6 + i))))), .ref 57]) (S' := stt (nw v) τ) (kc' := 0) (ks' := 0) rfl ⟨trivial, trivial, rfl, trivial, trivial, trivial, trivial, trivial, trivial⟩ ?_
          refine R_iald ca_105_96 (j := x * 4 + a 38 (n * 6 + i)) rfl (by first | (simp only [nl_0, nl_1, nl_2, nl_3, nl_4, nl_5, nl_6, nl_8, nl_20, nl_31, nl_32, pk_mul, nI_add]; done) | (simp only [nl_0, nl_1, nl_2, nl_3, nl_4, nl_5, nl_6, nl_8, nl_20, nl_31, nl_32, pk_mul, nI_add]; congr 1; omega)) (by omega) ?_
          show RU_105 (d + 2 * k + 2) (0, 0) Post 97 ([(6, .int (nI (a 39 (n * 6 + i)))), (5, .int (nI (x / 32 * 4 + a 38 (n * 6 + i)))), (4, .int (nI (a 38 (n * 6 + i)))), (3, .int (nI i)), (0, .ref 57), (1, .int (nI x)), (2, .int (nI n))]) ([.int (nI (v 78 (x * 4 + a 38 (n * 6 + i)))), .int (32 * (nI (v 73 (x / 32 * 4 + a 38 (n * 6 + i))))), .ref 57]) (stt (nw v) τ) 0 0
          rw [e78, e27]
          refine R_seg sg_105_97 sk_105_97 (pc' := 100) (lv' := [(6, .int (nI (a 39 (n * 6 + i)))), (5, .int (nI (x / 32 * 4 + a 38 (n * 6 + i)))), (4, .int (nI (a 38 (n * 6 + i)))), (3, .int (nI i)), (0, .ref 57), (1, .int (nI x)), (2, .int (nI n))]) (st' := [.int (nI (a 39 (n * 6 + i))), .int ((32 * (nI (v 73 (x / 32 * 4 + a 38 (n * 6 + i))))) + (nI (a 27 (x * 4 + a 38 (n * 6 + i))))), .ref 57]) (S' := stt (nw v) τ) (kc' := 0) (ks' := 0) rfl ⟨trivial, trivial, trivial⟩ ?_
          rw [show (32 : Int32) * nI (v 73 (x / 32 * 4 + a 38 (n * 6 + i))) + nI (a 27 (x * 4 + a 38 (n * 6 + i))) = nI (lkw a x (a 38 (n * 6 + i)) 0) from by rw [e73, e21]; unfold lkw; rw [if_pos c_57]; rw [show (32 : Int32) = nI 32 from rfl, pk_mul, nI_add, Nat.mul_comm]]
          refine R_virt ck_105_100 57 [.int (nI (lkw a x (a 38 (n * 6 + i)) 0)), .int (nI (a 39 (n * 6 + i)))] 0 0 (r := []) rfl rfl rfl (Nat.le_of_ble_eq_true rfl) (Nat.le_refl _) (Nat.le_refl _) ?_
          refine hN (a 39 (n * 6 + i)) (lkw a x (a 38 (n * 6 + i)) 0) u v τ _ Mu ((ho.child hS M.2.1 c_9 (by rw [hlc]; decide)).fr hfr.1) hR (fun v2 hR2 hF2 => ?_)
          show RU_105 (d + 2 * k + 2) (0, 0) Post 103 ([(6, .int (nI (a 39 (n * 6 + i)))), (5, .int (nI (x / 32 * 4 + a 38 (n * 6 + i)))), (4, .int (nI (a 38 (n * 6 + i)))), (3, .int (nI i)), (0, .ref 57), (1, .int (nI x)), (2, .int (nI n))]) ([]) (stt (nw v2) τ) 0 0
          refine R_goto ck_105_103 ?_
          refine R_seg sg_105_164 sk_105_164 (pc' := 167) (lv' := [(3, .int ((nI i) + 1)), (6, .int (nI (a 39 (n * 6 + i)))), (5, .int (nI (x / 32 * 4 + a 38 (n * 6 + i)))), (4, .int (nI (a 38 (n * 6 + i)))), (0, .ref 57), (1, .int (nI x)), (2, .int (nI n))]) (st' := []) (S' := stt (nw v2) τ) (kc' := 0) (ks' := 0) rfl ⟨(by decide), trivial⟩ ?_
          refine R_goto ck_105_167 ?_
          refine Runs.lv (lv := [(3, .int ((nI i) + 1)), (0, .ref 57), (1, .int (nI x)), (2, .int (nI n))]) ?_ _ (lvS_l (show ([3, 0, 1, 2] : List Nat).Nodup from by decide) (by intro q hq; simp only [List.mem_cons, List.not_mem_nil, or_false] at hq; rcases hq with rfl | rfl | rfl | rfl <;> rfl))
          rw [nI_1 i]
          exact ih (i + 1) _ v2 (by omega) (by rw [itr_s, ← hu]) (by unfold folS; rw [hlc]; exact hR2) (hV.tr hF2) (by omega)
set_option maxRecDepth 20000 in
theorem m_105 {d k : Nat} (hN : MNeedS d k) : MFolS d k := by
  intro n x a v τ Post M ho hR hp
  refine en_105 (Nat.le_of_ble_eq_true rfl) ?_
  show RU_105 (d + 2 * k + 2) (0, 0) Post 0 ([(0, .ref 57), (1, .int (nI x)), (2, .int (nI n))]) ([]) (stt (nw v) τ) 0 0
  refine R_seg sg_105_0 sk_105_0 (pc' := 2) (lv' := [(3, .int 0), (0, .ref 57), (1, .int (nI x)), (2, .int (nI n))]) (st' := []) (S' := stt (nw v) τ) (kc' := 0) (ks' := 0) rfl ⟨trivial, (by decide), trivial⟩ ?_
  rw [← nI_0]
  exact ml_105 hN M ho hp (a 37 n + 1) 0 a v (Nat.zero_le _) rfl hR (FV.rf v) (by omega)
theorem m_need (d : Nat) : ∀ k, MNeedS d k
  | 0 => by
    intro n x a v τ Post M ho hR hp
    have h1 := (M.2.1.2 n ho.1).1
    have h2 := ho.2.2.2
    omega
  | k + 1 => m_103 (m_105 (m_need d k))
theorem m_fol (d k : Nat) : MFolS d k := m_105 (m_need d k)
