/-! ===== what holds between calls ===== -/
def PO (w : WW) : Prop := ∀ t, t < 6 → 1 ≤ w 18 t ∧ w 18 t ≤ 9
def AR (w : WW) : Prop := w 57 58 = w 0 9 ∧ w 57 59 = w 55 1 ∧ w 55 1 ≤ 3500 ∧ ∀ i, i < w 55 1 → w 104 i = w 56 i
def CK (w : WW) : Prop := w 42 5 ≤ 192 ∧ ∀ k, k < w 42 5 → w 46 k ≤ 8 ∧ w 48 k + w 46 k ≤ 192
def FV0 (w : WW) : Prop := ∀ x, x < 192 → w 51 x ≤ 5 ∨ w 51 x = 10
def RE3 (w : WW) : Prop := ∀ h, h < 5 → w 58 h = w (11 + h) 0 ∧ w 59 h = w (11 + h) 1 ∧ w 60 h = w (11 + h) 2 ∧ w 61 h = w (11 + h) 3 ∧ w 62 h = w (11 + h) 4
def Sim (w : WW) : Prop := SO w ∧ KO w ∧ HO w ∧ SP w ∧ TN1 w ∧ AO w ∧ ZO w ∧ PO w ∧ TPc w ∧ TPR w w ∧ (∀ p, p ∈ EQA → w p.1 = w p.2) ∧ w 57 10 = w 6 1 ∧ RE3 w ∧ RT w w ∧ RH w w ∧ RK (w 25) (w 81) (w 1 4) ∧ RC w w ∧ RQ w w ∧ RF (w 51) (w 94) (w 95) ∧ AR w ∧ CK w ∧ FV0 w
theorem eqa_all {F : WW} (h : ∀ k l, (k, l) ∈ EQA → F k = F l) : ∀ p, p ∈ EQA → F p.1 = F p.2 := fun p hp => h p.1 p.2 hp
theorem eqa_18 {F : WW} (h69 : F 69 = F 17) (h70 : F 70 = F 18) (h71 : F 71 = F 19) (h72 : F 72 = F 20) (h73 : F 73 = F 21) (h74 : F 74 = F 22) (h75 : F 75 = F 23) (h76 : F 76 = F 24) (h77 : F 77 = F 26) (h78 : F 78 = F 27) (h79 : F 79 = F 28) (h80 : F 80 = F 29) (h66 : F 66 = F 8) (h67 : F 67 = F 9) (h68 : F 68 = F 10) (h82 : F 82 = F 2) (h83 : F 83 = F 3) (h84 : F 84 = F 4) : ∀ p, p ∈ EQA → F p.1 = F p.2 := by
  intro p hp
  simp only [EQA, List.mem_cons, List.not_mem_nil, or_false] at hp
  rcases hp with rfl | rfl | rfl | rfl | rfl | rfl | rfl | rfl | rfl | rfl | rfl | rfl | rfl | rfl | rfl | rfl | rfl | rfl
  · exact h69
  · exact h70
  · exact h71
  · exact h72
  · exact h73
  · exact h74
  · exact h75
  · exact h76
  · exact h77
  · exact h78
  · exact h79
  · exact h80
  · exact h66
  · exact h67
  · exact h68
  · exact h82
  · exact h83
  · exact h84
theorem HO.f2 {w v : WW} (h : HO w) (e : ∀ k, 11 ≤ k ∧ k < 16 → v k = w k) : HO v := h.fr e
theorem TN1.fr {w v : WW} (h : TN1 w) (e : ∀ k, 11 ≤ k ∧ k < 16 → v k = w k) : TN1 v := by
  intro g hg
  rw [e (11 + g) (by omega)]
  exact h g hg
theorem RE3.fr {w v : WW} (h : RE3 w) (e : ∀ k, 11 ≤ k ∧ k < 16 → v k = w k) (e2 : ∀ k, 58 ≤ k ∧ k ≤ 62 → v k = w k) : RE3 v := by
  intro g hg
  rw [e (11 + g) (by omega), e2 58 (by decide), e2 59 (by decide), e2 60 (by decide), e2 61 (by decide), e2 62 (by decide)]
  exact h g hg
/-- both sides' answers to a call: K says what follows -/
abbrev PR (d mC mM : Nat) (aC aM : List Value) (w : WW) (τ : Nat → Nat → Int64) (K : Int32 → Sto → Prop) : Prop := Ex (d + 40) mC aC (stt (nw w) τ) 0 0 (fun x S1 => ∃ r, x = some (.int r) ∧ Ex (d + 40) mM aM S1 0 0 (fun y S2 => y = some (.int r) ∧ K r S2))
theorem ub_n (x : Int32) : x = nI x.toBitVec.toNat := by
  apply Int32.toBitVec_inj.1
  show x.toBitVec = BitVec.ofNat 32 x.toBitVec.toNat
  simp
theorem nw_fl' (w : WW) (k a b n : Nat) {v : Int32} (hv : v = nI n) : fl2 (nw w) k a b v = nw (flw w k a b n) := nw_fl w k a b n hv
theorem RK.set {k u : Nat → Nat} {now : Nat} (h : RK k u now) (x : Nat) : RK (va_up k x 0) (va_up u x N1) now := by
  intro y hy
  unfold va_up
  by_cases z : y = x
  · simp only [z, if_true]; exact Or.inr ⟨Nat.zero_le _, Or.inl trivial⟩
  · simp only [z, if_false]; exact h y hy
theorem KO.set {w : WW} (h : KO w) (x : Nat) : ∀ y, y < 192 → va_up (w 25) x 0 y ≤ 100999 := by
  intro y hy
  unfold va_up
  split
  · omega
  · exact h.2 y hy
theorem sim_down {w : WW} (S : Sim w) {h f t : Nat} (hh : h < 5) (hf : f ≤ t) (ht : t ≤ 100000) (hn : w 6 1 < 20) : Sim (up2 (up2 (up2 (up2 (up2 (up2 (up2 (up2 w 8 (w 6 1) h) 9 (w 6 1) f) 10 (w 6 1) t) 6 1 (w 6 1 + 1)) 66 (w 6 1) h) 67 (w 6 1) f) 68 (w 6 1) t) 57 10 (w 6 1 + 1)) := by
  obtain ⟨s0, s1, s2, s3, s4, s5, s6, s7, s8, s9, s10, s11, s12, s13, s14, s15, s16, s17, s18, s19, s20, s21⟩ := S
  have q1 : ∀ j, j < w 6 1 + 1 → va_up (w 8) (w 6 1) h j < 5 ∧ va_up (w 9) (w 6 1) f j ≤ 100000 ∧ va_up (w 10) (w 6 1) t j ≤ 100000 := by
    intro j hj
    by_cases z : j = w 6 1
    · subst z; rw [va_up_self, va_up_self, va_up_self]; omega
    · rw [va_up_ne _ _ z, va_up_ne _ _ z, va_up_ne _ _ z]; exact s3.2 j (by omega)
  exact ⟨s0, s1, s2.fr (fun k hk => by rw [up2_k _ _ _ _ (by omega), up2_k _ _ _ _ (by omega), up2_k _ _ _ _ (by omega), up2_k _ _ _ _ (by omega), up2_k _ _ _ _ (by omega), up2_k _ _ _ _ (by omega), up2_k _ _ _ _ (by omega), up2_k _ _ _ _ (by omega)]), ⟨show w 6 1 + 1 ≤ 20 by omega, q1⟩, s4.fr (fun k hk => by rw [up2_k _ _ _ _ (by omega), up2_k _ _ _ _ (by omega), up2_k _ _ _ _ (by omega), up2_k _ _ _ _ (by omega), up2_k _ _ _ _ (by omega), up2_k _ _ _ _ (by omega), up2_k _ _ _ _ (by omega), up2_k _ _ _ _ (by omega)]), s5, s6, s7, s8, s9, eqa_18 (s10 (69, 17) (by decide)) (s10 (70, 18) (by decide)) (s10 (71, 19) (by decide)) (s10 (72, 20) (by decide)) (s10 (73, 21) (by decide)) (s10 (74, 22) (by decide)) (s10 (75, 23) (by decide)) (s10 (76, 24) (by decide)) (s10 (77, 26) (by decide)) (s10 (78, 27) (by decide)) (s10 (79, 28) (by decide)) (s10 (80, 29) (by decide)) (show va_up (w 66) (w 6 1) h = va_up (w 8) (w 6 1) h by rw [s10 (66, 8) (by decide)]) (show va_up (w 67) (w 6 1) f = va_up (w 9) (w 6 1) f by rw [s10 (67, 9) (by decide)]) (show va_up (w 68) (w 6 1) t = va_up (w 10) (w 6 1) t by rw [s10 (68, 10) (by decide)]) (s10 (82, 2) (by decide)) (s10 (83, 3) (by decide)) (s10 (84, 4) (by decide)), rfl, s12.fr (fun k hk => by rw [up2_k _ _ _ _ (by omega), up2_k _ _ _ _ (by omega), up2_k _ _ _ _ (by omega), up2_k _ _ _ _ (by omega), up2_k _ _ _ _ (by omega), up2_k _ _ _ _ (by omega), up2_k _ _ _ _ (by omega), up2_k _ _ _ _ (by omega)]) (fun k hk => by rw [up2_k _ _ _ _ (by omega), up2_k _ _ _ _ (by omega), up2_k _ _ _ _ (by omega), up2_k _ _ _ _ (by omega), up2_k _ _ _ _ (by omega), up2_k _ _ _ _ (by omega), up2_k _ _ _ _ (by omega), up2_k _ _ _ _ (by omega)]), s13, s14.fr (fun k hk => by rw [up2_k _ _ _ _ (by omega), up2_k _ _ _ _ (by omega), up2_k _ _ _ _ (by omega), up2_k _ _ _ _ (by omega), up2_k _ _ _ _ (by omega), up2_k _ _ _ _ (by omega), up2_k _ _ _ _ (by omega), up2_k _ _ _ _ (by omega)]) (fun k hk => by rw [up2_k _ _ _ _ (by omega), up2_k _ _ _ _ (by omega), up2_k _ _ _ _ (by omega), up2_k _ _ _ _ (by omega), up2_k _ _ _ _ (by omega), up2_k _ _ _ _ (by omega), up2_k _ _ _ _ (by omega), up2_k _ _ _ _ (by omega)]), s15, s16, s17, s18, s19, s20, s21⟩
theorem sim_type {w : WW} (S : Sim w) {t h p l : Nat} (ht : t < 6) (hh : h < 5) (hp1 : 1 ≤ p) (hp : p ≤ 9) (hl : l ≤ 999) : Sim (flw (up2 (up2 (up2 (flw (up2 (up2 (up2 w 17 t h) 18 t p) 19 t l) 25 (t * 32) (t * 32 + 32) 0) 69 t h) 70 t p) 71 t l) 81 (t * 32) (t * 32 + 32) N1) := by
  obtain ⟨s0, s1, s2, s3, s4, s5, s6, s7, s8, s9, s10, s11, s12, s13, s14, s15, s16, s17, s18, s19, s20, s21⟩ := S
  have q1 : ∀ x, x < 6 → va_up (w 17) t h x < 5 ∧ va_up (w 19) t l x ≤ 999 := by
    intro x hx
    unfold va_up
    split
    · exact ⟨hh, hl⟩
    · exact s0.1 x hx
  have q2 : ∀ x, x < 6 → 1 ≤ va_up (w 18) t p x ∧ va_up (w 18) t p x ≤ 9 := by
    intro x hx
    unfold va_up
    split
    · exact ⟨hp1, hp⟩
    · exact s7 x hx
  have q3 : ∀ x, x < 192 → (if t * 32 ≤ x ∧ x < t * 32 + 32 then 0 else w 25 x) ≤ 100999 := by
    intro x hx
    split
    · omega
    · exact s1.2 x hx
  have q4 : RK (fun x => if t * 32 ≤ x ∧ x < t * 32 + 32 then 0 else w 25 x) (fun x => if t * 32 ≤ x ∧ x < t * 32 + 32 then N1 else w 81 x) (w 1 4) := by
    intro x hx
    by_cases z : t * 32 ≤ x ∧ x < t * 32 + 32
    · simp only [if_pos z]; exact Or.inr ⟨Nat.zero_le _, Or.inl trivial⟩
    · simp only [if_neg z]; exact s15 x hx
  exact ⟨⟨q1, s0.2⟩, ⟨s1.1, q3⟩, s2.fr (fun k hk => by rw [flw_k _ _ _ _ _ (by omega), up2_k _ _ _ _ (by omega), up2_k _ _ _ _ (by omega), up2_k _ _ _ _ (by omega), flw_k _ _ _ _ _ (by omega), up2_k _ _ _ _ (by omega), up2_k _ _ _ _ (by omega), up2_k _ _ _ _ (by omega)]), s3, s4.fr (fun k hk => by rw [flw_k _ _ _ _ _ (by omega), up2_k _ _ _ _ (by omega), up2_k _ _ _ _ (by omega), up2_k _ _ _ _ (by omega), flw_k _ _ _ _ _ (by omega), up2_k _ _ _ _ (by omega), up2_k _ _ _ _ (by omega), up2_k _ _ _ _ (by omega)]), s5, s6, q2, s8, s9, eqa_18 (show va_up (w 69) t h = va_up (w 17) t h by rw [s10 (69, 17) (by decide)]) (show va_up (w 70) t p = va_up (w 18) t p by rw [s10 (70, 18) (by decide)]) (show va_up (w 71) t l = va_up (w 19) t l by rw [s10 (71, 19) (by decide)]) (s10 (72, 20) (by decide)) (s10 (73, 21) (by decide)) (s10 (74, 22) (by decide)) (s10 (75, 23) (by decide)) (s10 (76, 24) (by decide)) (s10 (77, 26) (by decide)) (s10 (78, 27) (by decide)) (s10 (79, 28) (by decide)) (s10 (80, 29) (by decide)) (s10 (66, 8) (by decide)) (s10 (67, 9) (by decide)) (s10 (68, 10) (by decide)) (s10 (82, 2) (by decide)) (s10 (83, 3) (by decide)) (s10 (84, 4) (by decide)), s11, s12.fr (fun k hk => by rw [flw_k _ _ _ _ _ (by omega), up2_k _ _ _ _ (by omega), up2_k _ _ _ _ (by omega), up2_k _ _ _ _ (by omega), flw_k _ _ _ _ _ (by omega), up2_k _ _ _ _ (by omega), up2_k _ _ _ _ (by omega), up2_k _ _ _ _ (by omega)]) (fun k hk => by rw [flw_k _ _ _ _ _ (by omega), up2_k _ _ _ _ (by omega), up2_k _ _ _ _ (by omega), up2_k _ _ _ _ (by omega), flw_k _ _ _ _ _ (by omega), up2_k _ _ _ _ (by omega), up2_k _ _ _ _ (by omega), up2_k _ _ _ _ (by omega)]), s13, s14.fr (fun k hk => by rw [flw_k _ _ _ _ _ (by omega), up2_k _ _ _ _ (by omega), up2_k _ _ _ _ (by omega), up2_k _ _ _ _ (by omega), flw_k _ _ _ _ _ (by omega), up2_k _ _ _ _ (by omega), up2_k _ _ _ _ (by omega), up2_k _ _ _ _ (by omega)]) (fun k hk => by rw [flw_k _ _ _ _ _ (by omega), up2_k _ _ _ _ (by omega), up2_k _ _ _ _ (by omega), up2_k _ _ _ _ (by omega), flw_k _ _ _ _ _ (by omega), up2_k _ _ _ _ (by omega), up2_k _ _ _ _ (by omega), up2_k _ _ _ _ (by omega)]), q4, s16, s17, s18, s19, s20, s21⟩
theorem sim_field {w : WW} (S : Sim w) {p k o m b : Nat} (hk : k < 3) (ho : o < 6) (hm1 : 1 ≤ m) (hm : m ≤ 5) (hb : b ≤ 1) : Sim (up2 (up2 (up2 (up2 (up2 (up2 (up2 (up2 w 20 p k) 21 p o) 22 p m) 23 p b) 72 p k) 73 p o) 74 p m) 75 p b) := by
  obtain ⟨s0, s1, s2, s3, s4, s5, s6, s7, s8, s9, s10, s11, s12, s13, s14, s15, s16, s17, s18, s19, s20, s21⟩ := S
  have q1 : ∀ x, x < 24 → va_up (w 20) p k x < 3 ∧ va_up (w 21) p o x < 6 ∧ 1 ≤ va_up (w 22) p m x ∧ va_up (w 22) p m x ≤ 5 := by
    intro x hx
    unfold va_up
    by_cases z : x = p
    · simp only [z, if_true]; exact ⟨hk, ho, hm1, hm⟩
    · simp only [z, if_false]; exact s0.2.1 x hx
  have q2 : ∀ x, x < 24 → va_up (w 23) p b x ≤ 1 := by
    intro x hx
    unfold va_up
    split
    · exact hb
    · exact s6.2 x hx
  exact ⟨⟨s0.1, q1, s0.2.2⟩, s1, s2.fr (fun k hk => by rw [up2_k _ _ _ _ (by omega), up2_k _ _ _ _ (by omega), up2_k _ _ _ _ (by omega), up2_k _ _ _ _ (by omega), up2_k _ _ _ _ (by omega), up2_k _ _ _ _ (by omega), up2_k _ _ _ _ (by omega), up2_k _ _ _ _ (by omega)]), s3, s4.fr (fun k hk => by rw [up2_k _ _ _ _ (by omega), up2_k _ _ _ _ (by omega), up2_k _ _ _ _ (by omega), up2_k _ _ _ _ (by omega), up2_k _ _ _ _ (by omega), up2_k _ _ _ _ (by omega), up2_k _ _ _ _ (by omega), up2_k _ _ _ _ (by omega)]), s5, ⟨s6.1, q2⟩, s7, s8, s9, eqa_18 (s10 (69, 17) (by decide)) (s10 (70, 18) (by decide)) (s10 (71, 19) (by decide)) (show va_up (w 72) p k = va_up (w 20) p k by rw [s10 (72, 20) (by decide)]) (show va_up (w 73) p o = va_up (w 21) p o by rw [s10 (73, 21) (by decide)]) (show va_up (w 74) p m = va_up (w 22) p m by rw [s10 (74, 22) (by decide)]) (show va_up (w 75) p b = va_up (w 23) p b by rw [s10 (75, 23) (by decide)]) (s10 (76, 24) (by decide)) (s10 (77, 26) (by decide)) (s10 (78, 27) (by decide)) (s10 (79, 28) (by decide)) (s10 (80, 29) (by decide)) (s10 (66, 8) (by decide)) (s10 (67, 9) (by decide)) (s10 (68, 10) (by decide)) (s10 (82, 2) (by decide)) (s10 (83, 3) (by decide)) (s10 (84, 4) (by decide)), s11, s12.fr (fun k hk => by rw [up2_k _ _ _ _ (by omega), up2_k _ _ _ _ (by omega), up2_k _ _ _ _ (by omega), up2_k _ _ _ _ (by omega), up2_k _ _ _ _ (by omega), up2_k _ _ _ _ (by omega), up2_k _ _ _ _ (by omega), up2_k _ _ _ _ (by omega)]) (fun k hk => by rw [up2_k _ _ _ _ (by omega), up2_k _ _ _ _ (by omega), up2_k _ _ _ _ (by omega), up2_k _ _ _ _ (by omega), up2_k _ _ _ _ (by omega), up2_k _ _ _ _ (by omega), up2_k _ _ _ _ (by omega), up2_k _ _ _ _ (by omega)]), s13, s14.fr (fun k hk => by rw [up2_k _ _ _ _ (by omega), up2_k _ _ _ _ (by omega), up2_k _ _ _ _ (by omega), up2_k _ _ _ _ (by omega), up2_k _ _ _ _ (by omega), up2_k _ _ _ _ (by omega), up2_k _ _ _ _ (by omega), up2_k _ _ _ _ (by omega)]) (fun k hk => by rw [up2_k _ _ _ _ (by omega), up2_k _ _ _ _ (by omega), up2_k _ _ _ _ (by omega), up2_k _ _ _ _ (by omega), up2_k _ _ _ _ (by omega), up2_k _ _ _ _ (by omega), up2_k _ _ _ _ (by omega), up2_k _ _ _ _ (by omega)]), s15, s16, s17, s18, s19, s20, s21⟩
theorem sim_thing {w : WW} (S : Sim w) {i b : Nat} (hb : b ≤ 1) : Sim (up2 (up2 (up2 (up2 w 24 i b) 25 i 0) 76 i b) 81 i N1) := by
  obtain ⟨s0, s1, s2, s3, s4, s5, s6, s7, s8, s9, s10, s11, s12, s13, s14, s15, s16, s17, s18, s19, s20, s21⟩ := S
  have q1 : ∀ x, x < 192 → va_up (w 24) i b x ≤ 1 := by
    intro x hx
    unfold va_up
    split
    · exact hb
    · exact s6.1 x hx
  exact ⟨s0, ⟨s1.1, s1.set i⟩, s2.fr (fun k hk => by rw [up2_k _ _ _ _ (by omega), up2_k _ _ _ _ (by omega), up2_k _ _ _ _ (by omega), up2_k _ _ _ _ (by omega)]), s3, s4.fr (fun k hk => by rw [up2_k _ _ _ _ (by omega), up2_k _ _ _ _ (by omega), up2_k _ _ _ _ (by omega), up2_k _ _ _ _ (by omega)]), s5, ⟨q1, s6.2⟩, s7, s8, s9, eqa_18 (s10 (69, 17) (by decide)) (s10 (70, 18) (by decide)) (s10 (71, 19) (by decide)) (s10 (72, 20) (by decide)) (s10 (73, 21) (by decide)) (s10 (74, 22) (by decide)) (s10 (75, 23) (by decide)) (show va_up (w 76) i b = va_up (w 24) i b by rw [s10 (76, 24) (by decide)]) (s10 (77, 26) (by decide)) (s10 (78, 27) (by decide)) (s10 (79, 28) (by decide)) (s10 (80, 29) (by decide)) (s10 (66, 8) (by decide)) (s10 (67, 9) (by decide)) (s10 (68, 10) (by decide)) (s10 (82, 2) (by decide)) (s10 (83, 3) (by decide)) (s10 (84, 4) (by decide)), s11, s12.fr (fun k hk => by rw [up2_k _ _ _ _ (by omega), up2_k _ _ _ _ (by omega), up2_k _ _ _ _ (by omega), up2_k _ _ _ _ (by omega)]) (fun k hk => by rw [up2_k _ _ _ _ (by omega), up2_k _ _ _ _ (by omega), up2_k _ _ _ _ (by omega), up2_k _ _ _ _ (by omega)]), s13, s14.fr (fun k hk => by rw [up2_k _ _ _ _ (by omega), up2_k _ _ _ _ (by omega), up2_k _ _ _ _ (by omega), up2_k _ _ _ _ (by omega)]) (fun k hk => by rw [up2_k _ _ _ _ (by omega), up2_k _ _ _ _ (by omega), up2_k _ _ _ _ (by omega), up2_k _ _ _ _ (by omega)]), s15.set i, s16, s17, s18, s19, s20, s21⟩
theorem sim_number {w : WW} (S : Sim w) {i j n : Nat} : Sim (up2 (up2 (up2 (up2 w 26 j n) 25 i 0) 77 j n) 81 i N1) := by
  obtain ⟨s0, s1, s2, s3, s4, s5, s6, s7, s8, s9, s10, s11, s12, s13, s14, s15, s16, s17, s18, s19, s20, s21⟩ := S
  exact ⟨s0, ⟨s1.1, s1.set i⟩, s2.fr (fun k hk => by rw [up2_k _ _ _ _ (by omega), up2_k _ _ _ _ (by omega), up2_k _ _ _ _ (by omega), up2_k _ _ _ _ (by omega)]), s3, s4.fr (fun k hk => by rw [up2_k _ _ _ _ (by omega), up2_k _ _ _ _ (by omega), up2_k _ _ _ _ (by omega), up2_k _ _ _ _ (by omega)]), s5, s6, s7, s8, s9, eqa_18 (s10 (69, 17) (by decide)) (s10 (70, 18) (by decide)) (s10 (71, 19) (by decide)) (s10 (72, 20) (by decide)) (s10 (73, 21) (by decide)) (s10 (74, 22) (by decide)) (s10 (75, 23) (by decide)) (s10 (76, 24) (by decide)) (show va_up (w 77) j n = va_up (w 26) j n by rw [s10 (77, 26) (by decide)]) (s10 (78, 27) (by decide)) (s10 (79, 28) (by decide)) (s10 (80, 29) (by decide)) (s10 (66, 8) (by decide)) (s10 (67, 9) (by decide)) (s10 (68, 10) (by decide)) (s10 (82, 2) (by decide)) (s10 (83, 3) (by decide)) (s10 (84, 4) (by decide)), s11, s12.fr (fun k hk => by rw [up2_k _ _ _ _ (by omega), up2_k _ _ _ _ (by omega), up2_k _ _ _ _ (by omega), up2_k _ _ _ _ (by omega)]) (fun k hk => by rw [up2_k _ _ _ _ (by omega), up2_k _ _ _ _ (by omega), up2_k _ _ _ _ (by omega), up2_k _ _ _ _ (by omega)]), s13, s14.fr (fun k hk => by rw [up2_k _ _ _ _ (by omega), up2_k _ _ _ _ (by omega), up2_k _ _ _ _ (by omega), up2_k _ _ _ _ (by omega)]) (fun k hk => by rw [up2_k _ _ _ _ (by omega), up2_k _ _ _ _ (by omega), up2_k _ _ _ _ (by omega), up2_k _ _ _ _ (by omega)]), s15.set i, s16, s17, s18, s19, s20, s21⟩
theorem sim_key {w : WW} (S : Sim w) {i j n : Nat} (hn : n < 32 ∨ n = N1) : Sim (up2 (up2 (up2 (up2 w 27 j n) 25 i 0) 78 j n) 81 i N1) := by
  obtain ⟨s0, s1, s2, s3, s4, s5, s6, s7, s8, s9, s10, s11, s12, s13, s14, s15, s16, s17, s18, s19, s20, s21⟩ := S
  have q1 : ∀ x, x < 768 → (va_up (w 27) j n x < 32 ∨ va_up (w 27) j n x = N1) ∧ w 28 x ≤ 5 := by
    intro x hx
    refine ⟨?_, (s0.2.2 x hx).2⟩
    unfold va_up
    split
    · exact hn
    · exact (s0.2.2 x hx).1
  exact ⟨⟨s0.1, s0.2.1, q1⟩, ⟨s1.1, s1.set i⟩, s2.fr (fun k hk => by rw [up2_k _ _ _ _ (by omega), up2_k _ _ _ _ (by omega), up2_k _ _ _ _ (by omega), up2_k _ _ _ _ (by omega)]), s3, s4.fr (fun k hk => by rw [up2_k _ _ _ _ (by omega), up2_k _ _ _ _ (by omega), up2_k _ _ _ _ (by omega), up2_k _ _ _ _ (by omega)]), s5, s6, s7, s8, s9, eqa_18 (s10 (69, 17) (by decide)) (s10 (70, 18) (by decide)) (s10 (71, 19) (by decide)) (s10 (72, 20) (by decide)) (s10 (73, 21) (by decide)) (s10 (74, 22) (by decide)) (s10 (75, 23) (by decide)) (s10 (76, 24) (by decide)) (s10 (77, 26) (by decide)) (show va_up (w 78) j n = va_up (w 27) j n by rw [s10 (78, 27) (by decide)]) (s10 (79, 28) (by decide)) (s10 (80, 29) (by decide)) (s10 (66, 8) (by decide)) (s10 (67, 9) (by decide)) (s10 (68, 10) (by decide)) (s10 (82, 2) (by decide)) (s10 (83, 3) (by decide)) (s10 (84, 4) (by decide)), s11, s12.fr (fun k hk => by rw [up2_k _ _ _ _ (by omega), up2_k _ _ _ _ (by omega), up2_k _ _ _ _ (by omega), up2_k _ _ _ _ (by omega)]) (fun k hk => by rw [up2_k _ _ _ _ (by omega), up2_k _ _ _ _ (by omega), up2_k _ _ _ _ (by omega), up2_k _ _ _ _ (by omega)]), s13, s14.fr (fun k hk => by rw [up2_k _ _ _ _ (by omega), up2_k _ _ _ _ (by omega), up2_k _ _ _ _ (by omega), up2_k _ _ _ _ (by omega)]) (fun k hk => by rw [up2_k _ _ _ _ (by omega), up2_k _ _ _ _ (by omega), up2_k _ _ _ _ (by omega), up2_k _ _ _ _ (by omega)]), s15.set i, s16, s17, s18, s19, s20, s21⟩
theorem sim_row {w : WW} (S : Sim w) {i j n y : Nat} (hn : n ≤ 5) : Sim (up2 (up2 (up2 (up2 (up2 (up2 w 28 j n) 29 j y) 25 i 0) 79 j n) 80 j y) 81 i N1) := by
  obtain ⟨s0, s1, s2, s3, s4, s5, s6, s7, s8, s9, s10, s11, s12, s13, s14, s15, s16, s17, s18, s19, s20, s21⟩ := S
  have q1 : ∀ x, x < 768 → (w 27 x < 32 ∨ w 27 x = N1) ∧ va_up (w 28) j n x ≤ 5 := by
    intro x hx
    refine ⟨(s0.2.2 x hx).1, ?_⟩
    unfold va_up
    split
    · exact hn
    · exact (s0.2.2 x hx).2
  exact ⟨⟨s0.1, s0.2.1, q1⟩, ⟨s1.1, s1.set i⟩, s2.fr (fun k hk => by rw [up2_k _ _ _ _ (by omega), up2_k _ _ _ _ (by omega), up2_k _ _ _ _ (by omega), up2_k _ _ _ _ (by omega), up2_k _ _ _ _ (by omega), up2_k _ _ _ _ (by omega)]), s3, s4.fr (fun k hk => by rw [up2_k _ _ _ _ (by omega), up2_k _ _ _ _ (by omega), up2_k _ _ _ _ (by omega), up2_k _ _ _ _ (by omega), up2_k _ _ _ _ (by omega), up2_k _ _ _ _ (by omega)]), s5, s6, s7, s8, s9, eqa_18 (s10 (69, 17) (by decide)) (s10 (70, 18) (by decide)) (s10 (71, 19) (by decide)) (s10 (72, 20) (by decide)) (s10 (73, 21) (by decide)) (s10 (74, 22) (by decide)) (s10 (75, 23) (by decide)) (s10 (76, 24) (by decide)) (s10 (77, 26) (by decide)) (s10 (78, 27) (by decide)) (show va_up (w 79) j n = va_up (w 28) j n by rw [s10 (79, 28) (by decide)]) (show va_up (w 80) j y = va_up (w 29) j y by rw [s10 (80, 29) (by decide)]) (s10 (66, 8) (by decide)) (s10 (67, 9) (by decide)) (s10 (68, 10) (by decide)) (s10 (82, 2) (by decide)) (s10 (83, 3) (by decide)) (s10 (84, 4) (by decide)), s11, s12.fr (fun k hk => by rw [up2_k _ _ _ _ (by omega), up2_k _ _ _ _ (by omega), up2_k _ _ _ _ (by omega), up2_k _ _ _ _ (by omega), up2_k _ _ _ _ (by omega), up2_k _ _ _ _ (by omega)]) (fun k hk => by rw [up2_k _ _ _ _ (by omega), up2_k _ _ _ _ (by omega), up2_k _ _ _ _ (by omega), up2_k _ _ _ _ (by omega), up2_k _ _ _ _ (by omega), up2_k _ _ _ _ (by omega)]), s13, s14.fr (fun k hk => by rw [up2_k _ _ _ _ (by omega), up2_k _ _ _ _ (by omega), up2_k _ _ _ _ (by omega), up2_k _ _ _ _ (by omega), up2_k _ _ _ _ (by omega), up2_k _ _ _ _ (by omega)]) (fun k hk => by rw [up2_k _ _ _ _ (by omega), up2_k _ _ _ _ (by omega), up2_k _ _ _ _ (by omega), up2_k _ _ _ _ (by omega), up2_k _ _ _ _ (by omega), up2_k _ _ _ _ (by omega)]), s15.set i, s16, s17, s18, s19, s20, s21⟩
theorem sim_asker {w : WW} (S : Sim w) {a r u f h : Nat} (hr : r ≤ 63) (hu : u ≤ 500) (hf : f ≤ 50) (hh : h ≤ 500) : Sim (up2 (up2 (up2 (up2 (up2 (up2 (up2 (up2 w 2 a r) 3 a u) 4 a f) 5 a h) 82 a r) 83 a u) 84 a f) 85 a h) := by
  obtain ⟨s0, s1, s2, s3, s4, s5, s6, s7, s8, s9, s10, s11, s12, s13, s14, s15, s16, s17, s18, s19, s20, s21⟩ := S
  have q1 : ∀ x, x < 4 → va_up (w 2) a r x ≤ 63 ∧ va_up (w 3) a u x ≤ 500 ∧ va_up (w 4) a f x ≤ 50 ∧ va_up (w 5) a h x ≤ 500 := by
    intro x hx
    unfold va_up
    by_cases z : x = a
    · simp only [z, if_true]; exact ⟨hr, hu, hf, hh⟩
    · simp only [z, if_false]; exact s5 x hx
  exact ⟨s0, s1, s2.fr (fun k hk => by rw [up2_k _ _ _ _ (by omega), up2_k _ _ _ _ (by omega), up2_k _ _ _ _ (by omega), up2_k _ _ _ _ (by omega), up2_k _ _ _ _ (by omega), up2_k _ _ _ _ (by omega), up2_k _ _ _ _ (by omega), up2_k _ _ _ _ (by omega)]), s3, s4.fr (fun k hk => by rw [up2_k _ _ _ _ (by omega), up2_k _ _ _ _ (by omega), up2_k _ _ _ _ (by omega), up2_k _ _ _ _ (by omega), up2_k _ _ _ _ (by omega), up2_k _ _ _ _ (by omega), up2_k _ _ _ _ (by omega), up2_k _ _ _ _ (by omega)]), q1, s6, s7, s8, s9, eqa_18 (s10 (69, 17) (by decide)) (s10 (70, 18) (by decide)) (s10 (71, 19) (by decide)) (s10 (72, 20) (by decide)) (s10 (73, 21) (by decide)) (s10 (74, 22) (by decide)) (s10 (75, 23) (by decide)) (s10 (76, 24) (by decide)) (s10 (77, 26) (by decide)) (s10 (78, 27) (by decide)) (s10 (79, 28) (by decide)) (s10 (80, 29) (by decide)) (s10 (66, 8) (by decide)) (s10 (67, 9) (by decide)) (s10 (68, 10) (by decide)) (show va_up (w 82) a r = va_up (w 2) a r by rw [s10 (82, 2) (by decide)]) (show va_up (w 83) a u = va_up (w 3) a u by rw [s10 (83, 3) (by decide)]) (show va_up (w 84) a f = va_up (w 4) a f by rw [s10 (84, 4) (by decide)]), s11, s12.fr (fun k hk => by rw [up2_k _ _ _ _ (by omega), up2_k _ _ _ _ (by omega), up2_k _ _ _ _ (by omega), up2_k _ _ _ _ (by omega), up2_k _ _ _ _ (by omega), up2_k _ _ _ _ (by omega), up2_k _ _ _ _ (by omega), up2_k _ _ _ _ (by omega)]) (fun k hk => by rw [up2_k _ _ _ _ (by omega), up2_k _ _ _ _ (by omega), up2_k _ _ _ _ (by omega), up2_k _ _ _ _ (by omega), up2_k _ _ _ _ (by omega), up2_k _ _ _ _ (by omega), up2_k _ _ _ _ (by omega), up2_k _ _ _ _ (by omega)]), ⟨s13.1, show va_up (w 85) a h = va_up (w 5) a h by rw [s13.2]⟩, s14.fr (fun k hk => by rw [up2_k _ _ _ _ (by omega), up2_k _ _ _ _ (by omega), up2_k _ _ _ _ (by omega), up2_k _ _ _ _ (by omega), up2_k _ _ _ _ (by omega), up2_k _ _ _ _ (by omega), up2_k _ _ _ _ (by omega), up2_k _ _ _ _ (by omega)]) (fun k hk => by rw [up2_k _ _ _ _ (by omega), up2_k _ _ _ _ (by omega), up2_k _ _ _ _ (by omega), up2_k _ _ _ _ (by omega), up2_k _ _ _ _ (by omega), up2_k _ _ _ _ (by omega), up2_k _ _ _ _ (by omega), up2_k _ _ _ _ (by omega)]), s15, s16, s17, s18, s19, s20, s21⟩
theorem sim_end {w : WW} (S : Sim w) {n : Nat} (hn : n ≤ 200) : Sim (up2 (up2 w 30 1 n) 57 32 n) := by
  obtain ⟨s0, s1, s2, s3, s4, s5, s6, s7, s8, s9, s10, s11, s12, s13, s14, s15, s16, s17, s18, s19, s20, s21⟩ := S
  exact ⟨s0, s1, s2.fr (fun k hk => by rw [up2_k _ _ _ _ (by omega), up2_k _ _ _ _ (by omega)]), s3, s4.fr (fun k hk => by rw [up2_k _ _ _ _ (by omega), up2_k _ _ _ _ (by omega)]), s5, s6, s7, ⟨hn, s8.2⟩, ⟨rfl, s9.2⟩, eqa_18 (s10 (69, 17) (by decide)) (s10 (70, 18) (by decide)) (s10 (71, 19) (by decide)) (s10 (72, 20) (by decide)) (s10 (73, 21) (by decide)) (s10 (74, 22) (by decide)) (s10 (75, 23) (by decide)) (s10 (76, 24) (by decide)) (s10 (77, 26) (by decide)) (s10 (78, 27) (by decide)) (s10 (79, 28) (by decide)) (s10 (80, 29) (by decide)) (s10 (66, 8) (by decide)) (s10 (67, 9) (by decide)) (s10 (68, 10) (by decide)) (s10 (82, 2) (by decide)) (s10 (83, 3) (by decide)) (s10 (84, 4) (by decide)), s11, s12.fr (fun k hk => by rw [up2_k _ _ _ _ (by omega), up2_k _ _ _ _ (by omega)]) (fun k hk => by rw [up2_k _ _ _ _ (by omega), up2_k _ _ _ _ (by omega)]), s13, s14.fr (fun k hk => by rw [up2_k _ _ _ _ (by omega), up2_k _ _ _ _ (by omega)]) (fun k hk => by rw [up2_k _ _ _ _ (by omega), up2_k _ _ _ _ (by omega)]), s15, s16, s17, s18, s19, s20, s21⟩
theorem sim_pass {w : WW} (S : Sim w) {t : Nat} (ht : w 1 4 + t ≤ 100000) : Sim (mGo t (aGo t w)) := by
  obtain ⟨s0, s1, s2, s3, s4, s5, s6, s7, s8, s9, s10, s11, s12, s13, s14, s15, s16, s17, s18, s19, s20, s21⟩ := S
  have ea : ∀ k, k ≠ 1 → k ≠ 5 → aGo t w k = w k := fun k k1 k2 => aGo_k t w ⟨k1, k2⟩
  have em : ∀ k, k ≠ 57 → k ≠ 85 → mGo t (aGo t w) k = aGo t w k := fun k k1 k2 => by
    unfold mGo
    rw [up2_k _ _ _ _ k2, up2_k _ _ _ _ k2, up2_k _ _ _ _ k2, up2_k _ _ _ _ k2, up2_k _ _ _ _ k1]
  have e : ∀ k, k ≠ 1 → k ≠ 5 → k ≠ 57 → k ≠ 85 → mGo t (aGo t w) k = w k := fun k k1 k2 k3 k4 => (em k k3 k4).trans (ea k k1 k2)
  have hA : AO (mGo t (aGo t w)) := by
    have := s5.go t
    unfold AO at this ⊢
    rw [em 2 (by decide) (by decide), em 3 (by decide) (by decide), em 4 (by decide) (by decide), em 5 (by decide) (by decide)]
    exact this
  have hRT : RT (mGo t (aGo t w)) (mGo t (aGo t w)) := by
    have q := RT.tick (a := w) (v := w) s13 (s10 (83, 3) (by decide)) (s10 (84, 4) (by decide)) t
    have e85 : mGo t (aGo t w) 85 = mGo t w 85 := by
      unfold mGo
      rw [ea 83 (by decide) (by decide), ea 84 (by decide) (by decide), ea 85 (by decide) (by decide)]
      show va_up (va_up (va_up (va_up (aGo t w 85) 0 _) 1 _) 2 _) 3 _ = va_up (va_up (va_up (va_up (w 85) 0 _) 1 _) 2 _) 3 _
      rw [ea 85 (by decide) (by decide)]
    refine ⟨?_, ?_⟩
    · rw [em 1 (by decide) (by decide)]
      show aGo t w 57 1 + t = _
      rw [ea 57 (by decide) (by decide)]
      exact q.1
    · rw [e85, em 5 (by decide) (by decide)]
      exact q.2
  exact ⟨s0, ⟨ht, s1.2⟩, s2.fr (fun k hk => e k (by omega) (by omega) (by omega) (by omega)), s3, s4.fr (fun k hk => e k (by omega) (by omega) (by omega) (by omega)), hA, s6, s7, s8, s9, eqa_18 (s10 (69, 17) (by decide)) (s10 (70, 18) (by decide)) (s10 (71, 19) (by decide)) (s10 (72, 20) (by decide)) (s10 (73, 21) (by decide)) (s10 (74, 22) (by decide)) (s10 (75, 23) (by decide)) (s10 (76, 24) (by decide)) (s10 (77, 26) (by decide)) (s10 (78, 27) (by decide)) (s10 (79, 28) (by decide)) (s10 (80, 29) (by decide)) (s10 (66, 8) (by decide)) (s10 (67, 9) (by decide)) (s10 (68, 10) (by decide)) (s10 (82, 2) (by decide)) (s10 (83, 3) (by decide)) (s10 (84, 4) (by decide)), s11, s12.fr (fun k hk => e k (by omega) (by omega) (by omega) (by omega)) (fun k hk => e k (by omega) (by omega) (by omega) (by omega)), hRT, s14.fr (fun k hk => e k (by omega) (by omega) (by omega) (by omega)) (fun k hk => e k (by omega) (by omega) (by omega) (by omega)), s15.tick, s16, s17, s18, s19, s20, s21⟩
def aHlp (w : WW) (h dl bt rt fl wt : Nat) : WW := aClose h (up2 (up2 (up2 (up2 (up2 w (11 + h) 0 dl) (11 + h) 1 bt) (11 + h) 2 rt) (11 + h) 3 fl) (11 + h) 4 wt)
def mHlp (w : WW) (h dl bt rt fl wt : Nat) : WW := up2 (up2 (up2 (up2 (up2 (up2 (up2 w 58 h dl) 59 h bt) 60 h rt) 61 h fl) 62 h wt) 63 h 0) 64 h N1
theorem aHlp_k (w : WW) (h dl bt rt fl wt : Nat) {k : Nat} (hk : k ≠ 11 + h) : aHlp w h dl bt rt fl wt k = w k := by
  unfold aHlp
  rw [aClose_k _ _ hk, up2_k _ _ _ _ hk, up2_k _ _ _ _ hk, up2_k _ _ _ _ hk, up2_k _ _ _ _ hk, up2_k _ _ _ _ hk]
theorem aHlp_f (w : WW) (h dl bt rt fl wt : Nat) : aHlp w h dl bt rt fl wt (11 + h) 0 = dl ∧ aHlp w h dl bt rt fl wt (11 + h) 1 = bt ∧ aHlp w h dl bt rt fl wt (11 + h) 2 = rt ∧ aHlp w h dl bt rt fl wt (11 + h) 3 = fl ∧ aHlp w h dl bt rt fl wt (11 + h) 4 = wt ∧ aHlp w h dl bt rt fl wt (11 + h) 5 = 1 ∧ aHlp w h dl bt rt fl wt (11 + h) 6 = 0 ∧ aHlp w h dl bt rt fl wt (11 + h) 7 = w (11 + h) 7 ∧ aHlp w h dl bt rt fl wt (11 + h) 8 = N1 := by
  unfold aHlp aClose
  simp only [up2, va_up, if_true, if_false, reduceIte, reduceCtorEq, Nat.reduceEqDiff, and_self]
theorem sim_helper {w : WW} (S : Sim w) {h dl bt rt fl wt : Nat} (hh : h < 5) (d1 : 1 ≤ dl) (d2 : dl ≤ 9) (b1 : 1 ≤ bt) (b2 : bt ≤ 8) (r1 : 1 ≤ rt) (r2 : rt ≤ 8) (f2 : fl ≤ 9) (w1 : 1 ≤ wt) (w2 : wt ≤ 99) : Sim (mHlp (aHlp w h dl bt rt fl wt) h dl bt rt fl wt) := by
  obtain ⟨s0, s1, s2, s3, s4, s5, s6, s7, s8, s9, s10, s11, s12, s13, s14, s15, s16, s17, s18, s19, s20, s21⟩ := S
  have ea : ∀ k, k ≠ 11 + h → aHlp w h dl bt rt fl wt k = w k := fun k hk => aHlp_k w h dl bt rt fl wt hk
  have em : ∀ k, ¬ (58 ≤ k ∧ k ≤ 64) → mHlp (aHlp w h dl bt rt fl wt) h dl bt rt fl wt k = aHlp w h dl bt rt fl wt k := fun k hk => by
    unfold mHlp
    rw [up2_k _ _ _ _ (by omega), up2_k _ _ _ _ (by omega), up2_k _ _ _ _ (by omega), up2_k _ _ _ _ (by omega), up2_k _ _ _ _ (by omega), up2_k _ _ _ _ (by omega), up2_k _ _ _ _ (by omega)]
  have e : ∀ k, k < 11 ∨ (16 ≤ k ∧ k < 58) ∨ 64 < k → mHlp (aHlp w h dl bt rt fl wt) h dl bt rt fl wt k = w k := fun k hk => (em k (by omega)).trans (ea k (by omega))
  have F := aHlp_f w h dl bt rt fl wt
  have eg : ∀ g, g ≠ h → mHlp (aHlp w h dl bt rt fl wt) h dl bt rt fl wt (11 + g) = w (11 + g) ∨ 5 ≤ g := fun g hg => by
    rcases Nat.lt_or_ge g 5 with z | z
    · left; rw [em (11 + g) (by omega)]; exact ea _ (by omega)
    · exact Or.inr z
  have eh : mHlp (aHlp w h dl bt rt fl wt) h dl bt rt fl wt (11 + h) = aHlp w h dl bt rt fl wt (11 + h) := em (11 + h) (by omega)
  have em5 : ∀ k, k = 58 ∨ k = 59 ∨ k = 60 ∨ k = 61 ∨ k = 62 ∨ k = 63 ∨ k = 64 → aHlp w h dl bt rt fl wt k = w k := fun k hk => ea k (by omega)
  generalize hX : mHlp (aHlp w h dl bt rt fl wt) h dl bt rt fl wt = X at *
  have x58 : X 58 = va_up (w 58) h dl := by rw [← hX, ← em5 58 (by decide)]; rfl
  have x59 : X 59 = va_up (w 59) h bt := by rw [← hX, ← em5 59 (by decide)]; rfl
  have x60 : X 60 = va_up (w 60) h rt := by rw [← hX, ← em5 60 (by decide)]; rfl
  have x61 : X 61 = va_up (w 61) h fl := by rw [← hX, ← em5 61 (by decide)]; rfl
  have x62 : X 62 = va_up (w 62) h wt := by rw [← hX, ← em5 62 (by decide)]; rfl
  have x63 : X 63 = va_up (w 63) h 0 := by rw [← hX, ← em5 63 (by decide)]; rfl
  have x64 : X 64 = va_up (w 64) h N1 := by rw [← hX, ← em5 64 (by decide)]; rfl
  refine ⟨s0.fr2 (fun k hk => e k (by omega)), s1.fr2 (e 1 (by decide)) (e 25 (by decide)), ?_, s3.fr (fun k hk => e k (by omega)), ?_, ?_, ?_, ?_, ?_, ?_, ?_, ?_, ?_, ?_, ?_, ?_, ?_, ?_, ?_, ?_, ?_, ?_⟩
  · intro g hg
    by_cases z : g = h
    · subst z
      have q := s2 g hg
      rw [eh, F.1, F.2.1, F.2.2.1, F.2.2.2.1, F.2.2.2.2.1, F.2.2.2.2.2.1, F.2.2.2.2.2.2.1, F.2.2.2.2.2.2.2.1]
      omega
    · rcases eg g z with y | y
      · rw [y]; exact s2 g hg
      · omega
  · intro g hg
    by_cases z : g = h
    · subst z; rw [eh]; exact F.2.2.2.2.2.2.2.2
    · rcases eg g z with y | y
      · rw [y]; exact s4 g hg
      · omega
  · unfold AO; rw [e 2 (by decide), e 3 (by decide), e 4 (by decide), e 5 (by decide)]; exact s5
  · unfold ZO; rw [e 24 (by decide), e 23 (by decide)]; exact s6
  · unfold PO; rw [e 18 (by decide)]; exact s7
  · unfold TPc; rw [e 30 (by decide), e 31 (by decide)]; exact s8
  · unfold TPR; rw [e 57 (by decide), e 30 (by decide), e 86 (by decide), e 31 (by decide)]; exact s9
  · intro p hp
    have hb : ∀ p, p ∈ EQA → 64 < p.1 ∧ (p.2 < 11 ∨ (16 ≤ p.2 ∧ p.2 < 58)) := by decide
    rw [e p.1 (by have := (hb p hp).1; omega), e p.2 (by have := (hb p hp).2; omega)]
    exact s10 p hp
  · rw [e 57 (by decide), e 6 (by decide)]; exact s11
  · intro g hg
    rw [x58, x59, x60, x61, x62]
    by_cases z : g = h
    · subst z
      rw [eh, F.1, F.2.1, F.2.2.1, F.2.2.2.1, F.2.2.2.2.1, va_up_self, va_up_self, va_up_self, va_up_self, va_up_self]
      exact ⟨rfl, rfl, rfl, rfl, rfl⟩
    · rw [va_up_ne _ _ z, va_up_ne _ _ z, va_up_ne _ _ z, va_up_ne _ _ z, va_up_ne _ _ z]
      rcases eg g z with y | y
      · rw [y]; exact s12 g hg
      · omega
  · unfold RT; rw [e 57 (by decide), e 1 (by decide), e 85 (by decide), e 5 (by decide)]; exact s13
  · intro g hg
    rw [x63, x64, e 65 (by decide)]
    by_cases z : g = h
    · subst z
      rw [eh, F.2.2.2.2.2.2.1, F.2.2.2.2.2.2.2.2, F.2.2.2.2.2.1, va_up_self, va_up_self]
      exact ⟨rfl, (s14 g hg).2.1.trans (s4 g hg), rfl⟩
    · rw [va_up_ne _ _ z, va_up_ne _ _ z]
      rcases eg g z with y | y
      · rw [y]; exact s14 g hg
      · omega
  · rw [e 25 (by decide), e 81 (by decide), e 1 (by decide)]; exact s15
  · unfold RC; rw [e 98 (by decide), e 99 (by decide), e 100 (by decide), e 101 (by decide), e 102 (by decide), e 103 (by decide), e 57 (by decide), e 42 (by decide), e 43 (by decide), e 44 (by decide), e 45 (by decide), e 46 (by decide), e 47 (by decide), e 48 (by decide), e 49 (by decide)]; exact s16
  · unfold RQ; rw [e 97 (by decide), e 53 (by decide), e 57 (by decide), e 50 (by decide)]; exact s17
  · rw [e 51 (by decide), e 94 (by decide), e 95 (by decide)]; exact s18
  · unfold AR; rw [e 57 (by decide), e 0 (by decide), e 55 (by decide), e 104 (by decide), e 56 (by decide)]; exact s19
  · unfold CK; rw [e 42 (by decide), e 46 (by decide), e 48 (by decide)]; exact s20
  · unfold FV0; rw [e 51 (by decide)]; exact s21
