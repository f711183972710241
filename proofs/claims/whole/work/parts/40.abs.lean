/-! ===== how many places have a property ===== -/
def fb_ct (p : Nat → Bool) : Nat → Nat
  | 0 => 0
  | n + 1 => fb_ct p n + (if p n then 1 else 0)
theorem fb_ct_succ (p : Nat → Bool) (n : Nat) : fb_ct p (n + 1) = fb_ct p n + (if p n then 1 else 0) := rfl
theorem fb_ct_le (p : Nat → Bool) : ∀ n, fb_ct p n ≤ n
  | 0 => Nat.le_refl _
  | n + 1 => by
    have h := fb_ct_le p n
    rw [fb_ct_succ]
    split <;> omega
theorem fb_ct_step (p : Nat → Bool) (m : Nat) : ∀ n, fb_ct p m ≤ fb_ct p (m + n)
  | 0 => Nat.le_refl _
  | n + 1 => by
    have h := fb_ct_step p m n
    show fb_ct p m ≤ fb_ct p (m + n + 1)
    rw [fb_ct_succ]
    omega
theorem fb_ct_mono (p : Nat → Bool) {m n : Nat} (h : m ≤ n) : fb_ct p m ≤ fb_ct p n := by
  have := fb_ct_step p m (n - m)
  rwa [Nat.add_sub_cancel' h] at this
theorem fb_ct_cong {p q : Nat → Bool} : ∀ {n : Nat}, (∀ k, k < n → p k = q k) → fb_ct p n = fb_ct q n
  | 0, _ => rfl
  | n + 1, h => by
    rw [fb_ct_succ, fb_ct_succ, fb_ct_cong (fun k hk => h k (by omega)), h n (by omega)]
/-- one place changed -/
theorem fb_ct_out (p : Nat → Bool) (b : Bool) {i n : Nat} (h : n ≤ i) : fb_ct (fun k => if k = i then b else p k) n = fb_ct p n :=
  fb_ct_cong fun k hk => if_neg (by omega)
theorem fb_ct_upd (p : Nat → Bool) (b : Bool) {i : Nat} : ∀ {n : Nat}, i < n → fb_ct (fun k => if k = i then b else p k) n + (if p i then 1 else 0) = fb_ct p n + (if b then 1 else 0)
  | 0, h => absurd h (Nat.not_lt_zero i)
  | n + 1, h => by
    rw [fb_ct_succ, fb_ct_succ]
    rcases Nat.lt_or_ge i n with q | q
    · have := fb_ct_upd p b q
      have e : (if n = i then b else p n) = p n := if_neg (by omega)
      rw [e]
      omega
    · have e : i = n := by omega
      subst e
      rw [fb_ct_out p b (Nat.le_refl _)]
      simp only [if_true]
      omega
theorem fb_ct_sub {p q : Nat → Bool} : ∀ {n : Nat}, (∀ k, k < n → p k = true → q k = true) → fb_ct p n ≤ fb_ct q n
  | 0, _ => Nat.le_refl _
  | n + 1, h => by
    have h1 := fb_ct_sub (n := n) (p := p) (q := q) (fun k hk => h k (by omega))
    have h2 := h n (by omega)
    rw [fb_ct_succ, fb_ct_succ]
    cases hp : p n <;> cases hq : q n <;> simp_all <;> omega
theorem fb_ct_or {p q : Nat → Bool} : ∀ {n : Nat}, (∀ k, k < n → ¬ (p k = true ∧ q k = true)) → fb_ct (fun k => p k || q k) n = fb_ct p n + fb_ct q n
  | 0, _ => rfl
  | n + 1, h => by
    have h1 := fb_ct_or (n := n) (p := p) (q := q) (fun k hk => h k (by omega))
    have h2 := h n (by omega)
    rw [fb_ct_succ, fb_ct_succ, fb_ct_succ, h1]
    cases hp : p n <;> cases hq : q n <;> simp_all <;> omega
theorem fb_ct_not (p : Nat → Bool) : ∀ n, fb_ct p n + fb_ct (fun k => !p k) n = n
  | 0 => rfl
  | n + 1 => by
    have h := fb_ct_not p n
    rw [fb_ct_succ, fb_ct_succ]
    cases p n <;> simp <;> omega
theorem fb_ct_split (p : Nat → Bool) (m : Nat) : ∀ n, fb_ct p (m + n) = fb_ct p m + fb_ct (fun k => p (m + k)) n
  | 0 => rfl
  | n + 1 => by
    have h := fb_ct_split p m n
    show fb_ct p (m + n + 1) = _
    rw [fb_ct_succ, fb_ct_succ, h, Nat.add_assoc]
theorem fb_ct_zero {p : Nat → Bool} : ∀ {n : Nat}, fb_ct p n = 0 ↔ ∀ k, k < n → p k = false
  | 0 => ⟨fun _ k hk => absurd hk (Nat.not_lt_zero k), fun _ => rfl⟩
  | n + 1 => by
    have h := fb_ct_zero (p := p) (n := n)
    rw [fb_ct_succ]
    constructor
    · intro e k hk
      have e1 : fb_ct p n = 0 := by omega
      rcases Nat.lt_or_ge k n with q | q
      · exact h.mp e1 k q
      · have ek : k = n := by omega
        subst ek
        cases hp : p k
        · rfl
        · simp [hp] at e
    · intro a
      rw [h.mpr (fun k hk => a k (by omega)), a n (by omega)]
      rfl
theorem fb_ct_pos {p : Nat → Bool} {n : Nat} : 0 < fb_ct p n ↔ ∃ k, k < n ∧ p k = true := by
  constructor
  · intro h
    refine Classical.byContradiction fun hx => ?_
    have := fb_ct_zero.mpr (fun k hk => by
      cases hp : p k
      · rfl
      · exact absurd ⟨k, hk, hp⟩ hx : ∀ k, k < n → p k = false)
    omega
  · rintro ⟨k, hk, hp⟩
    rcases Nat.eq_zero_or_pos (fb_ct p n) with e | e
    · have := fb_ct_zero.mp e k hk
      rw [this] at hp
      cases hp
    · exact e
theorem fb_ct_all {p : Nat → Bool} {n : Nat} : fb_ct p n = n ↔ ∀ k, k < n → p k = true := by
  have h := fb_ct_not p n
  constructor
  · intro e k hk
    have z : fb_ct (fun k => !p k) n = 0 := by omega
    have := fb_ct_zero.mp z k hk
    cases hp : p k
    · simp [hp] at this
    · rfl
  · intro a
    have z : fb_ct (fun k => !p k) n = 0 := fb_ct_zero.mpr (fun k hk => by simp [a k hk])
    omega
/-- the k-th place with the property -/
theorem fb_ct_kth {p : Nat → Bool} {k : Nat} : ∀ {n : Nat}, k < fb_ct p n → ∃ i, i < n ∧ p i = true ∧ fb_ct p i = k
  | 0, h => absurd h (Nat.not_lt_zero k)
  | n + 1, h => by
    rcases Nat.lt_or_ge k (fb_ct p n) with q | q
    · obtain ⟨i, h1, h2⟩ := fb_ct_kth q
      exact ⟨i, by omega, h2⟩
    · rw [fb_ct_succ] at h
      cases hp : p n
      · simp [hp] at h; omega
      · simp [hp] at h
        exact ⟨n, by omega, hp, by omega⟩
theorem fb_ct_kth_one {p : Nat → Bool} {i j : Nat} (hi : p i = true) (hj : p j = true) (e : fb_ct p i = fb_ct p j) : i = j := by
  have key : ∀ a b : Nat, a < b → p a = true → fb_ct p a < fb_ct p b := by
    intro a b hab ha
    have h := fb_ct_mono p (show a + 1 ≤ b from hab)
    rw [fb_ct_succ, ha] at h
    simp at h
    omega
  rcases Nat.lt_trichotomy i j with q | q | q
  · have := key i j q hi; omega
  · exact q
  · have := key j i q hj; omega
theorem fb_bit_nat (n j : Nat) : n &&& 2 ^ j = 0 ↔ n.testBit j = false := by
  constructor
  · intro h
    have h1 : (n &&& 2 ^ j).testBit j = false := by rw [h]; simp
    rw [Nat.testBit_and] at h1
    simpa using h1
  · intro h
    apply Nat.eq_of_testBit_eq
    intro i
    rw [Nat.testBit_and]
    by_cases hi : j = i
    · subst hi; simp [h]
    · first | (simp [Nat.testBit_two_pow, hi]; done) | (simp [Nat.testBit_two_pow_of_ne hi]; done)
theorem fb_bit_set (n j i : Nat) : (n ||| 2 ^ j).testBit i = (n.testBit i || decide (i = j)) := by
  rw [Nat.testBit_or]
  by_cases h : j = i
  · subst h; simp
  · have h2 : ¬ i = j := fun e => h e.symm
    first | (simp [Nat.testBit_two_pow, h, h2]; done) | (simp [Nat.testBit_two_pow_of_ne h, h2]; done)
theorem nx_and (a b : Nat) : nI a &&& nI b = nI (a &&& b) := by
  apply Int32.toBitVec_inj.1
  show BitVec.ofNat 32 a &&& BitVec.ofNat 32 b = BitVec.ofNat 32 (a &&& b)
  apply BitVec.eq_of_getLsbD_eq
  intro i hi
  simp [hi]
theorem nx_or (a b : Nat) : nI a ||| nI b = nI (a ||| b) := by
  apply Int32.toBitVec_inj.1
  show BitVec.ofNat 32 a ||| BitVec.ofNat 32 b = BitVec.ofNat 32 (a ||| b)
  apply BitVec.eq_of_getLsbD_eq
  intro i hi
  simp [hi]
theorem b1_shl {n : Nat} (hn : n < 20) : (1 : Int32) <<< (nI n &&& 31) = nI (2 ^ n) := (by decide +kernel : ∀ n, n < 20 → (1 : Int32) <<< (nI n &&& 31) = nI (2 ^ n)) n hn
theorem b1_sm : ∀ n, n < 32 → ((nI n &&& 31).toBitVec.smod 32).toNat = n := by decide +kernel
theorem bit_and {a n : Nat} (ha : a < 1048576) (hn : n < 20) : nI a &&& ((1 : Int32) <<< (nI n &&& 31)) = 0 ↔ a.testBit n = false := by
  have h2 : a &&& 2 ^ n ≤ a := Nat.and_le_left
  rw [b1_shl hn, nx_and, ← fb_bit_nat, ← nI_0, nI_eq (by omega) (by decide)]
theorem bit_or {a n : Nat} (hn : n < 20) : nI a ||| ((1 : Int32) <<< (nI n &&& 31)) = nI (a ||| 2 ^ n) := by
  rw [b1_shl hn, nx_or]
theorem bit_shr {a n : Nat} (ha : a < 1048576) (hn : n < 20) : (nI a >>> (nI n &&& 31)) &&& 1 = 0 ↔ a.testBit n = false := by
  have h2 : a / 2 ^ n ≤ a := Nat.div_le_self _ _
  rw [pk_shrN (by omega) _ n (b1_sm n (by omega))]
  show nI (a / 2 ^ n) &&& nI 1 = 0 ↔ _
  rw [nx_and, Nat.and_one_is_mod, ← nI_0, nI_eq (by omega) (by omega), Nat.testBit_eq_decide_div_mod_eq, decide_eq_false_iff_not]
  generalize a / 2 ^ n = z
  omega
/-! ===== the class's cells as numbers ===== -/
abbrev WW : Type := Nat → Nat → Nat
/-- class cells hold the numbers w (a negative one by its 32 bits), the model's are M's -/
def st2 (w : WW) (M : Nat → Nat → Int32) : Nat → Nat → Int32 := fun k i => if k < 57 then nI (w k i) else M k i
theorem st2_up {σ : Nat → Nat → Int32} {w : WW} {M : Nat → Nat → Int32} {k i n : Nat} {v : Int32} (hσ : σ = st2 w M) (hk : k < 57) (hv : v = nI n) : up2 σ k i v = st2 (up2 w k i n) M := by
  subst hσ hv
  funext a b
  unfold up2 st2 va_up
  by_cases h : a = k
  · subst h
    simp only [if_true, if_pos hk]
    by_cases h2 : b = i <;> simp [h2]
  · simp only [if_neg h]
theorem st2_lo {w : WW} {M : Nat → Nat → Int32} {k i : Nat} (hk : k < 57) : st2 w M k i = nI (w k i) := if_pos hk
theorem st2_hi {w : WW} {M : Nat → Nat → Int32} {k i : Nat} (hk : 57 ≤ k) : st2 w M k i = M k i := if_neg (by omega)
theorem up2_n {α : Type} (f : Nat → Nat → α) (k i : Nat) (v : α) {a : Nat} (h : a ≠ k) (b : Nat) : up2 f k i v a b = f a b := by
  unfold up2 va_up
  rw [if_neg h]
/-- n rounds -/
def itr {α : Type} (f : Nat → α → α) : Nat → α → α
  | 0, a => a
  | n + 1, a => f n (itr f n a)
theorem itr_s {α : Type} (f : Nat → α → α) (n : Nat) (a : α) : itr f (n + 1) a = f n (itr f n a) := rfl
theorem itr_ind {α : Type} {f : Nat → α → α} (P : Nat → α → Prop) {a : α} (h0 : P 0 a) : ∀ n, (∀ i b, i < n → P i b → P (i + 1) (f i b)) → P n (itr f n a)
  | 0, _ => h0
  | n + 1, h => h n _ (Nat.lt_succ_self n) (itr_ind P h0 n (fun i b hi hb => h i b (by omega) hb))
theorem itr_c {α : Type} {f g : Nat → α → α} {a : α} : ∀ n, (∀ i, i < n → ∀ b, f i b = g i b) → itr f n a = itr g n a
  | 0, _ => rfl
  | n + 1, h => by rw [itr_s, itr_s, itr_c n (fun i hi => h i (by omega)), h n (Nat.lt_succ_self n)]
theorem itr_id {α : Type} {f : Nat → α → α} {a : α} : ∀ n, (∀ i, i < n → f i a = a) → itr f n a = a
  | 0, _ => rfl
  | n + 1, h => by rw [itr_s, itr_id n (fun i hi => h i (by omega)), h n (Nat.lt_succ_self n)]
/-! ===== what is needed ===== -/
/-- minus one, by its bits -/
abbrev N1 : Nat := 4294967295
def noR (w : WW) (x : Nat) : Prop := (nI (w 50 11) >>> (nI (x / 32) &&& 31)) &&& 1 = 0
def aMeet (w : WW) (x : Nat) : WW :=
  if (nI (w 50 11) >>> (nI (x / 32) &&& 31)) &&& 1 = 0 then up2 w 51 x 1
  else if w 25 x ≤ w 1 4 then up2 (up2 (up2 (up2 w 51 x 11) 53 (w 50 1) x) 50 1 (w 50 1 + 1)) 54 (w 17 (x / 32)) (w 54 (w 17 (x / 32)) + 1)
  else up2 w 51 x 10
/-- how many things a field leads to, and to which -/
def lcw (w : WW) (x f : Nat) : Nat := if w 20 (x / 32 * 4 + f) = 1 then (if w 27 (x * 4 + f) = N1 then 0 else 1) else if w 20 (x / 32 * 4 + f) = 2 then (if w 22 (x / 32 * 4 + f) < w 28 (x * 4 + f) then w 22 (x / 32 * 4 + f) else w 28 (x * 4 + f)) else 0
def lkw (w : WW) (x f j : Nat) : Nat := w 21 (x / 32 * 4 + f) * 32 + (if w 20 (x / 32 * 4 + f) = 1 then w 27 (x * 4 + f) else rk (nI (w 29 (x * 4 + f))) j)
def amk (w : WW) (n x : Nat) : WW := if w 51 x = 0 then aMeet (up2 w 52 x (w 52 x ||| 2 ^ n)) x else up2 w 52 x (w 52 x ||| 2 ^ n)
def need : Nat → Nat → Nat → WW → WW
  | 0, _, _, w => w
  | k + 1, n, x, w => if (w 52 x).testBit n = true then w else if amk w n x 51 x = 10 then itr (fun i v => itr (fun j v => need k (w 39 (n * 6 + i)) (lkw w x (w 38 (n * 6 + i)) j) v) (lcw w x (w 38 (n * 6 + i))) v) (w 37 n) (amk w n x) else amk w n x
/-- one field of a node, then all of them -/
def folS (k n x : Nat) (w : WW) (i : Nat) (v : WW) : WW := itr (fun j v => need k (w 39 (n * 6 + i)) (lkw w x (w 38 (n * 6 + i)) j) v) (lcw w x (w 38 (n * 6 + i))) v
def fol (k n x : Nat) (w : WW) (v : WW) : WW := itr (folS k n x w) (w 37 n) v
theorem need_s (k n x : Nat) (w : WW) : need (k + 1) n x w = if (w 52 x).testBit n = true then w else if amk w n x 51 x = 10 then fol k n x w (amk w n x) else amk w n x := rfl
/-- what need leaves as it is -/
def FRN (w v : WW) : Prop := (∀ k, k < 50 → v k = w k) ∧ (∀ k, 54 < k → v k = w k) ∧ ∀ i, i ≠ 1 → v 50 i = w 50 i
theorem FRN.rf (w : WW) : FRN w w := ⟨fun _ _ => rfl, fun _ _ => rfl, fun _ _ => rfl⟩
theorem FRN.tr {u v w : WW} (h : FRN u v) (h2 : FRN v w) : FRN u w := ⟨fun k hk => (h2.1 k hk).trans (h.1 k hk), fun k hk => (h2.2.1 k hk).trans (h.2.1 k hk), fun i hi => (h2.2.2 i hi).trans (h.2.2 i hi)⟩
theorem FRN.up {u v : WW} (h : FRN u v) {k i n : Nat} (hk : 50 < k ∧ k ≤ 54 ∨ k = 50 ∧ i = 1) : FRN u (up2 v k i n) := by
  refine ⟨fun a ha => ?_, fun a ha => ?_, fun j hj => ?_⟩
  · rw [← h.1 a ha]; funext b; exact up2_n v k i n (by omega) b
  · rw [← h.2.1 a ha]; funext b; exact up2_n v k i n (by omega) b
  · rw [← h.2.2 j hj]
    by_cases e : k = 50
    · subst e
      rw [up2_d]
      omega
    · exact up2_n v k i n (by omega) j
theorem FRN.meet {u v : WW} (h : FRN u v) (x : Nat) : FRN u (aMeet v x) := by
  unfold aMeet
  split
  · exact h.up (Or.inl (by decide))
  · split
    · exact ((((h.up (Or.inl (by decide))).up (Or.inl (by decide))).up (Or.inr (by decide))).up (Or.inl (by decide)))
    · exact h.up (Or.inl (by decide))
theorem FRN.mark {u v : WW} (h : FRN u v) (n x : Nat) : FRN u (amk v n x) := by
  unfold amk
  split
  · exact (h.up (Or.inl (by decide))).meet x
  · exact h.up (Or.inl (by decide))
theorem need_fr : ∀ (k n x : Nat) (w : WW), FRN w (need k n x w)
  | 0, _, _, w => FRN.rf w
  | k + 1, n, x, w => by
    rw [need_s]
    split
    · exact FRN.rf w
    · split
      · unfold fol
        refine itr_ind (fun _ v => FRN w v) ((FRN.rf w).mark n x) _ (fun i b _ hb => ?_)
        unfold folS
        exact itr_ind (fun _ v => FRN w v) hb _ (fun j b _ hb => hb.tr (need_fr k _ _ b))
      · exact (FRN.rf w).mark n x
