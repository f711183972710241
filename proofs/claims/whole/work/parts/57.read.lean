/-! ===== reading: the class ===== -/
def rOpen (w : WW) (p : Nat) : WW := up2 (up2 (up2 (up2 (up2 (up2 (up2 (up2 w 32 7 (w 32 7 + 1)) 33 (w 32 7) (w 40 5)) 35 (w 32 7) (w 40 6)) 34 (w 32 7) p) 37 (w 32 7) 0) 41 (w 40 3) (w 32 7)) 40 3 (w 40 3 + 1)) 36 (w 32 7) (w 40 3 + 1)
def rNode (w : WW) (p : Nat) : WW := up2 (if w 40 7 = N1 then rOpen w p else up2 (rOpen w p) 39 (w 40 7) (w 32 7)) 40 4 1
def rClose (w : WW) : WW := up2 (up2 w 40 3 (w 40 3 - 1)) 40 4 (if w 40 3 = 1 then 2 else 1)
def rAdd (w : WW) (n f : Nat) : WW := up2 (up2 (up2 w 37 n (w 37 n + 1)) 38 (n * 6 + w 37 n) f) 39 (n * 6 + w 37 n) N1
def fac (w : WW) (P : Nat) : Nat := if w 20 P = 2 then w 22 P else 1
def rField (w : WW) (n f : Nat) : WW := if w 20 (w 33 n * 4 + f) = 0 then rAdd w n f else up2 (up2 (up2 (up2 (rAdd w n f) 40 5 (w 21 (w 33 n * 4 + f))) 40 6 (w 35 n * fac w (w 33 n * 4 + f))) 40 7 (n * 6 + w 37 n)) 40 4 0
def rtk (w : WW) (p b : Nat) : WW ⊕ Nat :=
  if w 40 4 = 0 then (if b = 123 then (if 20 ≤ w 32 7 ∨ 5 ≤ w 40 3 then .inr 1 else .inl (rNode w p)) else .inr 0)
  else if w 40 4 = 2 then .inr 0
  else if b = 125 then (if w 37 (w 41 (w 40 3 - 1)) = 0 then .inr 0 else .inl (rClose w))
  else if 48 ≤ b ∧ b ≤ 51 then (if 6 ≤ w 37 (w 41 (w 40 3 - 1)) then .inr 2 else .inl (rField w (w 41 (w 40 3 - 1)) (b - 48))) else .inr 0
def rd : Nat → Nat → WW → WW × Nat
  | 0, p, w => (w, if w 40 4 = 2 then 0 else 1 + 4 * p)
  | m + 1, p, w => if w 31 p = 32 then rd m (p + 1) w else match rtk w p (w 31 p) with
    | .inr c => (w, 1 + 4 * p + c)
    | .inl u => rd m (p + 1) u
theorem rd_s (m p : Nat) (w : WW) : rd (m + 1) p w = if w 31 p = 32 then rd m (p + 1) w else match rtk w p (w 31 p) with
    | .inr c => (w, 1 + 4 * p + c)
    | .inl u => rd m (p + 1) u := rfl
/-- a slot that leads to a node -/
def SLT (w : WW) (n i : Nat) : Prop := n < w 39 (n * 6 + i) ∧ w 39 (n * 6 + i) < w 32 7 ∧ w 36 (w 39 (n * 6 + i)) = w 36 n + 1 ∧ w 33 (w 39 (n * 6 + i)) = w 21 (w 33 n * 4 + w 38 (n * 6 + i)) ∧ w 35 (w 39 (n * 6 + i)) = w 35 n * fac w (w 33 n * 4 + w 38 (n * 6 + i))
def kdn (w : WW) (n i : Nat) : Prop := n < w 32 7 ∧ i < w 37 n ∧ w 20 (w 33 n * 4 + w 38 (n * 6 + i)) ≠ 0
/-- what holds of the nodes (pd: the slot whose node is still wanted, or N1) -/
def RN0 (w : WW) (pd : Nat) : Prop := w 32 7 ≤ 20 ∧ (∀ n, n < w 32 7 → (w 33 n < 6 ∧ 1 ≤ w 36 n ∧ w 36 n ≤ 5 ∧ w 37 n ≤ 6) ∧ (1 ≤ w 35 n ∧ w 35 n ≤ 5 ^ (w 36 n - 1))) ∧ (∀ n i, n < w 32 7 → i < w 37 n → w 38 (n * 6 + i) < 4) ∧ (∀ n i, kdn w n i → n * 6 + i ≠ pd → SLT w n i) ∧ (∀ n i m j, kdn w n i → kdn w m j → n * 6 + i ≠ pd → m * 6 + j ≠ pd → w 39 (n * 6 + i) = w 39 (m * 6 + j) → n * 6 + i = m * 6 + j) ∧ (0 < w 32 7 → w 36 0 = 1 ∧ w 35 0 = 1)
def RO (w : WW) : Prop := w 40 3 ≤ 5 ∧ ∀ l, l < w 40 3 → w 41 l < w 32 7 ∧ w 36 (w 41 l) = l + 1
def PND (w : WW) (pd : Nat) : Prop := ∃ i, i < w 37 (w 41 (w 40 3 - 1)) ∧ pd = w 41 (w 40 3 - 1) * 6 + i ∧ kdn w (w 41 (w 40 3 - 1)) i ∧ w 40 5 = w 21 (w 33 (w 41 (w 40 3 - 1)) * 4 + w 38 pd) ∧ w 40 6 = w 35 (w 41 (w 40 3 - 1)) * fac w (w 33 (w 41 (w 40 3 - 1)) * 4 + w 38 pd)
def RIn (w : WW) (ty : Nat) : Prop := SO w ∧ RO w ∧ (w 40 4 = 1 ∧ 1 ≤ w 40 3 ∧ RN0 w N1 ∧ w 33 0 = ty ∧ 0 < w 32 7 ∨ w 40 4 = 2 ∧ w 40 3 = 0 ∧ RN0 w N1 ∧ w 33 0 = ty ∧ 0 < w 32 7 ∨ w 40 4 = 0 ∧ (w 40 3 = 0 ∧ w 32 7 = 0 ∧ w 40 7 = N1 ∧ w 40 6 = 1 ∧ w 40 5 = ty ∧ ty < 6 ∨ 1 ≤ w 40 3 ∧ RN0 w (w 40 7) ∧ w 40 7 < 120 ∧ PND w (w 40 7) ∧ w 33 0 = ty ∧ 0 < w 32 7))
theorem pow5 {a b : Nat} (h : a ≤ b) : 5 ^ a ≤ 5 ^ b := Nat.pow_le_pow_right (by decide) h
/-- a first node -/
theorem RIn.root {w : WW} {ty p : Nat} (hS : SO w) (h3 : w 40 3 = 0) (h7 : w 32 7 = 0) (hs : w 40 7 = N1) (h6 : w 40 6 = 1) (h5 : w 40 5 = ty) (hty : ty < 6) : RIn (rNode w p) ty := by
  have e : rNode w p = up2 (rOpen w p) 40 4 1 := by unfold rNode; rw [if_pos hs]
  have n7 : rNode w p 32 7 = 1 := by rw [e]; show w 32 7 + 1 = 1; omega
  have e33 : rNode w p 33 = va_up (w 33) 0 ty := by rw [e]; show va_up (w 33) (w 32 7) (w 40 5) = _; rw [h7, h5]
  have e35 : rNode w p 35 = va_up (w 35) 0 1 := by rw [e]; show va_up (w 35) (w 32 7) (w 40 6) = _; rw [h7, h6]
  have e36 : rNode w p 36 = va_up (w 36) 0 1 := by rw [e]; show va_up (w 36) (w 32 7) (w 40 3 + 1) = _; rw [h7, h3]
  have e37 : rNode w p 37 = va_up (w 37) 0 0 := by rw [e]; show va_up (w 37) (w 32 7) 0 = _; rw [h7]
  have e41 : rNode w p 41 = va_up (w 41) 0 0 := by rw [e]; show va_up (w 41) (w 40 3) (w 32 7) = _; rw [h7, h3]
  have e43 : rNode w p 40 3 = 1 := by rw [e]; show w 40 3 + 1 = 1; omega
  have e44 : rNode w p 40 4 = 1 := by rw [e]; rfl
  have hSO : SO (rNode w p) := by rw [e]; exact hS
  have noslot : ∀ n i, ¬ kdn (rNode w p) n i := by
    rintro n i ⟨k1, k2, _⟩
    rw [n7] at k1
    have : n = 0 := by omega
    subst this
    rw [e37, va_up_self] at k2
    omega
  refine ⟨hSO, ⟨by rw [e43]; omega, fun l hl => ?_⟩, Or.inl ⟨e44, by rw [e43]; exact Nat.le_refl _, ⟨by rw [n7]; omega, fun n hn => ?_, fun n i hn hi => ?_, fun n i k => absurd k (noslot n i), fun n i m j k => absurd k (noslot n i), fun _ => ?_⟩, ?_, by rw [n7]; omega⟩⟩
  · rw [e43] at hl
    have : l = 0 := by omega
    subst this
    rw [e41, va_up_self, n7, e36, va_up_self]
    exact ⟨by omega, rfl⟩
  · rw [n7] at hn
    have : n = 0 := by omega
    subst this
    rw [e33, e35, e36, e37, va_up_self, va_up_self, va_up_self, va_up_self]
    exact ⟨⟨hty, by omega, by omega, by omega⟩, by omega, by decide⟩
  · rw [n7] at hn
    have : n = 0 := by omega
    subst this
    rw [e37, va_up_self] at hi
    omega
  · rw [e36, e35, va_up_self, va_up_self]; exact ⟨rfl, rfl⟩
  · rw [e33, va_up_self]
/-- a node below another -/
theorem RIn.node {w : WW} {ty p : Nat} (hS : SO w) (hO : RO w) (h1 : 1 ≤ w 40 3) (hN : RN0 w (w 40 7)) (hs : w 40 7 < 120) (hP : PND w (w 40 7)) (h0 : w 33 0 = ty) (hn0 : 0 < w 32 7) (h20 : w 32 7 < 20) (h5 : w 40 3 < 5) : RIn (rNode w p) ty := by
  obtain ⟨i0, p1, p2, p3, p4, p5⟩ := hP
  obtain ⟨a1, a2, a3, a4, a5, a6⟩ := hN
  have hne : w 40 7 ≠ N1 := by intro z; rw [z] at hs; exact absurd hs (by decide)
  have e : rNode w p = up2 (up2 (rOpen w p) 39 (w 40 7) (w 32 7)) 40 4 1 := by unfold rNode; rw [if_neg hne]
  generalize hnd : w 32 7 = nd at *
  generalize hpn : w 41 (w 40 3 - 1) = pn at *
  have hop := hO.2 (w 40 3 - 1) (by omega)
  rw [hpn, hnd] at hop
  have n7 : rNode w p 32 7 = nd + 1 := by rw [e]; show w 32 7 + 1 = _; rw [hnd]
  have e33 : rNode w p 33 = va_up (w 33) nd (w 40 5) := by rw [e]; show va_up (w 33) (w 32 7) (w 40 5) = _; rw [hnd]
  have e35 : rNode w p 35 = va_up (w 35) nd (w 40 6) := by rw [e]; show va_up (w 35) (w 32 7) (w 40 6) = _; rw [hnd]
  have e36 : rNode w p 36 = va_up (w 36) nd (w 40 3 + 1) := by rw [e]; show va_up (w 36) (w 32 7) (w 40 3 + 1) = _; rw [hnd]
  have e37 : rNode w p 37 = va_up (w 37) nd 0 := by rw [e]; show va_up (w 37) (w 32 7) 0 = _; rw [hnd]
  have e38 : rNode w p 38 = w 38 := by rw [e]; rfl
  have e39 : rNode w p 39 = va_up (w 39) (w 40 7) nd := by rw [e]; rfl
  have e41 : rNode w p 41 = va_up (w 41) (w 40 3) nd := by rw [e]; show va_up (w 41) (w 40 3) (w 32 7) = _; rw [hnd]
  have e43 : rNode w p 40 3 = w 40 3 + 1 := by rw [e]; rfl
  have e44 : rNode w p 40 4 = 1 := by rw [e]; rfl
  have e20 : rNode w p 20 = w 20 := by rw [e]; rfl
  have e21 : rNode w p 21 = w 21 := by rw [e]; rfl
  have e22 : rNode w p 22 = w 22 := by rw [e]; rfl
  have hSO : SO (rNode w p) := by rw [e]; exact hS
  have efac : ∀ P, fac (rNode w p) P = fac w P := fun P => by unfold fac; rw [e20, e22]
  have hpnd : pn < nd := by have := p3.1; rw [hnd] at this; exact this
  -- slots of the old nodes
  have old : ∀ n i, kdn (rNode w p) n i → kdn w n i := by
    rintro n i ⟨k1, k2, k3⟩
    rw [n7] at k1
    by_cases z : n = nd
    · subst z; rw [e37, va_up_self] at k2; omega
    · rw [e37, va_up_ne _ _ z] at k2
      rw [e20, e33, e38, va_up_ne _ _ z] at k3
      exact ⟨by rw [hnd]; omega, k2, k3⟩
  have hc : ∀ n i, kdn w n i → n < nd ∧ i < 6 := fun n i k => by
    have z1 := k.1
    rw [hnd] at z1
    have z2 := k.2.1
    have z3 := (a2 n z1).1
    exact ⟨z1, by omega⟩
  have hfacP : ∀ P, P < 24 → 1 ≤ fac w P ∧ fac w P ≤ 5 := fun P hP => by
    have := hS.2.1 P hP
    unfold fac
    split <;> omega
  have hi06 : i0 < 6 := by have := (a2 pn hpnd).1; omega
  have h38 : w 38 (w 40 7) < 4 := by rw [p2]; exact a3 pn i0 hpnd p1
  have hP24 : w 33 pn * 4 + w 38 (w 40 7) < 24 := by have := (a2 pn hpnd).1.1; omega
  have slt : ∀ n i, kdn w n i → SLT (rNode w p) n i := by
    intro n i k
    have k0 := hc n i k
    unfold SLT
    rw [e39, n7, e36, e33, e35, e21, e38, efac]
    by_cases z : n * 6 + i = w 40 7
    · have zn : n = pn := by omega
      have zi : i = i0 := by omega
      subst zn zi
      rw [z, va_up_self, va_up_self, va_up_ne (w 36) _ (show n ≠ nd by omega), va_up_self, va_up_self, va_up_ne (w 33) _ (show n ≠ nd by omega), va_up_ne (w 35) _ (show n ≠ nd by omega)]
      exact ⟨by omega, by omega, by omega, p4, p5⟩
    · have s := a4 n i k z
      unfold SLT at s
      rw [hnd] at s
      rw [va_up_ne (w 39) _ z, va_up_ne (w 36) _ (show w 39 (n * 6 + i) ≠ nd by omega), va_up_ne (w 36) _ (show n ≠ nd by omega), va_up_ne (w 33) _ (show w 39 (n * 6 + i) ≠ nd by omega), va_up_ne (w 33) _ (show n ≠ nd by omega), va_up_ne (w 35) _ (show w 39 (n * 6 + i) ≠ nd by omega), va_up_ne (w 35) _ (show n ≠ nd by omega)]
      exact ⟨s.1, by omega, s.2.2⟩
  refine ⟨hSO, ⟨by rw [e43]; omega, fun l hl => ?_⟩, Or.inl ⟨e44, by rw [e43]; omega, ⟨by rw [n7]; omega, fun n hn => ?_, fun n i hn hi => ?_, fun n i k _ => slt n i (old n i k), fun n i m j k k' _ _ he => ?_, fun _ => ?_⟩, ?_, by rw [n7]; omega⟩⟩
  · rw [e43] at hl
    rw [e41, n7, e36]
    by_cases z : l = w 40 3
    · subst z; rw [va_up_self, va_up_self]; exact ⟨by omega, rfl⟩
    · have q := hO.2 l (by omega)
      rw [hnd] at q
      rw [va_up_ne _ _ z, va_up_ne _ _ (show w 41 l ≠ nd by omega)]
      exact ⟨by omega, q.2⟩
  · rw [n7] at hn
    rw [e33, e35, e36, e37]
    by_cases z : n = nd
    · subst z
      rw [va_up_self, va_up_self, va_up_self, va_up_self, p4, p5]
      have b := hfacP _ hP24
      have c := (a2 pn hpnd).2
      have dd := hS.2.1 _ hP24
      refine ⟨⟨dd.2.1, by omega, by omega, by omega⟩, by have q := Nat.mul_le_mul c.1 b.1; omega, ?_⟩
      have q : w 35 pn * fac w (w 33 pn * 4 + w 38 (w 40 7)) ≤ 5 ^ (w 36 pn - 1) * 5 := Nat.mul_le_mul c.2 b.2
      rw [show w 40 3 + 1 - 1 = (w 36 pn - 1) + 1 by omega, Nat.pow_succ]
      exact q
    · rw [va_up_ne _ _ z, va_up_ne _ _ z, va_up_ne _ _ z, va_up_ne _ _ z]
      exact a2 n (by omega)
  · rw [n7] at hn
    rw [e38]
    by_cases z : n = nd
    · subst z; rw [e37, va_up_self] at hi; omega
    · rw [e37, va_up_ne _ _ z] at hi
      exact a3 n i (by omega) hi
  · have k := old n i k
    have k' := old m j k'
    rw [e39] at he
    have q1 : n * 6 + i ≠ w 40 7 → w 39 (n * 6 + i) < nd := fun z => by have := (a4 n i k z).2.1; rw [hnd] at this; exact this
    have q2 : m * 6 + j ≠ w 40 7 → w 39 (m * 6 + j) < nd := fun z => by have := (a4 m j k' z).2.1; rw [hnd] at this; exact this
    by_cases z1 : n * 6 + i = w 40 7
    · by_cases z2 : m * 6 + j = w 40 7
      · omega
      · rw [z1, va_up_self, va_up_ne _ _ z2] at he
        have := q2 z2
        omega
    · by_cases z2 : m * 6 + j = w 40 7
      · rw [z2, va_up_self, va_up_ne _ _ z1] at he
        have := q1 z1
        omega
      · rw [va_up_ne _ _ z1, va_up_ne _ _ z2] at he
        exact a5 n i m j k k' z1 z2 he
  · have := a6 (by omega)
    rw [e36, e35, va_up_ne _ _ (show 0 ≠ nd by omega), va_up_ne _ _ (show 0 ≠ nd by omega)]
    exact this
  · rw [e33, va_up_ne _ _ (show 0 ≠ nd by omega)]; exact h0
theorem RIn.close {w : WW} {ty : Nat} (hS : SO w) (hO : RO w) (h1 : 1 ≤ w 40 3) (hN : RN0 w N1) (h0 : w 33 0 = ty) (hn0 : 0 < w 32 7) : RIn (rClose w) ty := by
  have o : RO (rClose w) := ⟨show w 40 3 - 1 ≤ 5 by have := hO.1; omega, fun l hl => hO.2 l (by have hl : l < w 40 3 - 1 := hl; omega)⟩
  refine ⟨hS, o, ?_⟩
  by_cases z : w 40 3 = 1
  · right; left
    refine ⟨?_, show w 40 3 - 1 = 0 by omega, hN, h0, hn0⟩
    show (if w 40 3 = 1 then 2 else 1) = 2
    rw [if_pos z]
  · left
    refine ⟨?_, show 1 ≤ w 40 3 - 1 by omega, hN, h0, hn0⟩
    show (if w 40 3 = 1 then 2 else 1) = 1
    rw [if_neg z]
theorem RIn.field {w : WW} {ty f : Nat} (hS : SO w) (hO : RO w) (h4 : w 40 4 = 1) (h1 : 1 ≤ w 40 3) (hN : RN0 w N1) (h0 : w 33 0 = ty) (hn0 : 0 < w 32 7) (hf : f < 4) (h6 : w 37 (w 41 (w 40 3 - 1)) < 6) : RIn (rField w (w 41 (w 40 3 - 1)) f) ty := by
  obtain ⟨a1, a2, a3, a4, a5, a6⟩ := hN
  have hop := hO.2 (w 40 3 - 1) (by omega)
  generalize hpn : w 41 (w 40 3 - 1) = n0 at *
  generalize hw0 : w 37 n0 = w0 at *
  -- both ways share the tree
  have core : ∀ u : WW, (∀ k, k ≠ 40 → u k = rAdd w n0 f k) → ∀ pd, (w 20 (w 33 n0 * 4 + f) ≠ 0 → pd = n0 * 6 + w0) → RN0 u pd := by
    intro u eu pd hpd
    have e7 : u 32 7 = w 32 7 := by rw [eu 32 (by decide)]; rfl
    have e33 : u 33 = w 33 := by rw [eu 33 (by decide)]; rfl
    have e35 : u 35 = w 35 := by rw [eu 35 (by decide)]; rfl
    have e36 : u 36 = w 36 := by rw [eu 36 (by decide)]; rfl
    have e37 : u 37 = va_up (w 37) n0 (w0 + 1) := by rw [eu 37 (by decide)]; show va_up (w 37) n0 (w 37 n0 + 1) = _; rw [hw0]
    have e38 : u 38 = va_up (w 38) (n0 * 6 + w0) f := by rw [eu 38 (by decide)]; show va_up (w 38) (n0 * 6 + w 37 n0) f = _; rw [hw0]
    have e39 : u 39 = va_up (w 39) (n0 * 6 + w0) N1 := by rw [eu 39 (by decide)]; show va_up (w 39) (n0 * 6 + w 37 n0) N1 = _; rw [hw0]
    have e20 : u 20 = w 20 := by rw [eu 20 (by decide)]; rfl
    have e21 : u 21 = w 21 := by rw [eu 21 (by decide)]; rfl
    have e22 : u 22 = w 22 := by rw [eu 22 (by decide)]; rfl
    have efac : ∀ P, fac u P = fac w P := fun P => by unfold fac; rw [e20, e22]
    have wid : ∀ n, n < w 32 7 → w 37 n ≤ 6 := fun n hn => (a2 n hn).1.2.2.2
    have old : ∀ n i, kdn u n i → n * 6 + i ≠ n0 * 6 + w0 → kdn w n i := by
      rintro n i ⟨k1, k2, k3⟩ hne
      rw [e7] at k1
      have hi : i < w 37 n := by
        rw [e37] at k2
        unfold va_up at k2
        split at k2
        · rename_i z; subst z; omega
        · exact k2
      rw [e20, e33, e38, va_up_ne _ _ hne] at k3
      exact ⟨k1, hi, k3⟩
    have new : ∀ n i, kdn u n i → n * 6 + i = n0 * 6 + w0 → n * 6 + i = pd := by
      rintro n i ⟨k1, k2, k3⟩ he
      rw [e7] at k1
      have wn := wid n k1
      have hi6 : i < 7 := by
        rw [e37] at k2
        unfold va_up at k2
        split at k2 <;> omega
      rw [e20, e33, e38, he, va_up_self] at k3
      have hi : i < 6 := by
        rw [e37] at k2
        unfold va_up at k2
        split at k2 <;> omega
      have : n = n0 := by omega
      subst this
      rw [he]; exact (hpd k3).symm
    refine ⟨by rw [e7]; exact a1, fun n hn => ?_, fun n i hn hi => ?_, fun n i k hne => ?_, fun n i m j k k' z1 z2 he => ?_, fun hq => ?_⟩
    · rw [e7] at hn
      rw [e33, e35, e36, e37]
      have q := a2 n hn
      refine ⟨⟨q.1.1, q.1.2.1, q.1.2.2.1, ?_⟩, q.2⟩
      unfold va_up
      split <;> omega
    · rw [e7] at hn
      rw [e38]
      unfold va_up
      split
      · exact hf
      · rename_i z
        refine a3 n i hn ?_
        rw [e37] at hi
        unfold va_up at hi
        split at hi
        · rename_i zn; subst zn
          rcases Nat.lt_or_ge i w0 with y | y
          · omega
          · exact absurd (show n * 6 + i = n * 6 + w0 by omega) z
        · exact hi
    · have zz : n * 6 + i ≠ n0 * 6 + w0 := fun z => hne (new n i k z)
      have k0 := old n i k zz
      have hk1 := k0.1
      have hk2 := k0.2.1
      have wn := wid n hk1
      have s := a4 n i k0 (by show n * 6 + i ≠ 4294967295; omega)
      unfold SLT at s ⊢
      rw [e39, e7, e36, e33, e21, e38, e35, efac, va_up_ne _ _ zz, va_up_ne _ _ zz]
      exact s
    · have y1 : n * 6 + i ≠ n0 * 6 + w0 := fun z => z1 (new n i k z)
      have y2 : m * 6 + j ≠ n0 * 6 + w0 := fun z => z2 (new m j k' z)
      rw [e39, va_up_ne _ _ y1, va_up_ne _ _ y2] at he
      have k0 := old n i k y1
      have k1 := old m j k' y2
      have b0 := wid n k0.1
      have b1 := wid m k1.1
      have c0 := k0.1
      have c1 := k1.1
      have d0 := k0.2.1
      have d1 := k1.2.1
      exact a5 n i m j k0 k1 (by show n * 6 + i ≠ 4294967295; omega) (by show m * 6 + j ≠ 4294967295; omega) he
    · rw [e36, e35]; rw [e7] at hq; exact a6 hq
  have hs33 : ∀ u : WW, (∀ k, k ≠ 40 → u k = rAdd w n0 f k) → SO u ∧ u 33 0 = ty ∧ 0 < u 32 7 := by
    intro u eu
    refine ⟨?_, by rw [eu 33 (by decide)]; exact h0, by rw [eu 32 (by decide)]; exact hn0⟩
    unfold SO
    rw [eu 17 (by decide), eu 19 (by decide), eu 20 (by decide), eu 21 (by decide), eu 22 (by decide), eu 27 (by decide), eu 28 (by decide)]
    exact hS
  unfold rField
  split
  · rename_i hk
    have s := hs33 (rAdd w n0 f) (fun _ _ => rfl)
    refine ⟨s.1, hO, Or.inl ⟨h4, h1, core _ (fun _ _ => rfl) N1 (fun z => absurd hk z), s.2⟩⟩
  · rename_i hk
    rw [hw0]
    have eu : ∀ k, k ≠ 40 → (up2 (up2 (up2 (up2 (rAdd w n0 f) 40 5 (w 21 (w 33 n0 * 4 + f))) 40 6 (w 35 n0 * fac w (w 33 n0 * 4 + f))) 40 7 (n0 * 6 + w0)) 40 4 0) k = rAdd w n0 f k := fun k hk => by rw [up2_k _ _ _ _ hk, up2_k _ _ _ _ hk, up2_k _ _ _ _ hk, up2_k _ _ _ _ hk]
    have s := hs33 _ eu
    have hop1 := hop.1
    refine ⟨s.1, hO, Or.inr (Or.inr ⟨rfl, Or.inr ⟨h1, core _ eu _ (fun _ => rfl), show n0 * 6 + w0 < 120 by omega, ?_, s.2⟩⟩)⟩
    have f38 : (rAdd w n0 f) 38 (n0 * 6 + w0) = f := by show va_up (w 38) (n0 * 6 + w 37 n0) f _ = f; rw [hw0, va_up_self]
    have f37 : (rAdd w n0 f) 37 n0 = w0 + 1 := by show va_up (w 37) n0 (w 37 n0 + 1) n0 = _; rw [va_up_self, hw0]
    unfold PND
    show ∃ i, i < (rAdd w n0 f) 37 (w 41 (w 40 3 - 1)) ∧ n0 * 6 + w0 = w 41 (w 40 3 - 1) * 6 + i ∧ kdn _ (w 41 (w 40 3 - 1)) i ∧ w 21 (w 33 n0 * 4 + f) = w 21 (w 33 (w 41 (w 40 3 - 1)) * 4 + (rAdd w n0 f) 38 (n0 * 6 + w0)) ∧ w 35 n0 * fac w (w 33 n0 * 4 + f) = w 35 (w 41 (w 40 3 - 1)) * fac w (w 33 (w 41 (w 40 3 - 1)) * 4 + (rAdd w n0 f) 38 (n0 * 6 + w0))
    rw [hpn, f38, f37]
    refine ⟨w0, by omega, rfl, ⟨hop.1, ?_, ?_⟩, rfl, rfl⟩
    · show w0 < (rAdd w n0 f) 37 n0; rw [f37]; omega
    · show w 20 (w 33 n0 * 4 + (rAdd w n0 f) 38 (n0 * 6 + w0)) ≠ 0; rw [f38]; exact hk
/-- what reading leaves -/
def FRD (w u : WW) : Prop := (∀ k, (k < 32 ∨ 41 < k) → u k = w k) ∧ ∀ i, i ≠ 7 → u 32 i = w 32 i
theorem FRD.rf (w : WW) : FRD w w := ⟨fun _ _ => rfl, fun _ _ => rfl⟩
theorem FRD.tr {u v w : WW} (a : FRD u v) (b : FRD v w) : FRD u w := ⟨fun k hk => (b.1 k hk).trans (a.1 k hk), fun i hi => (b.2 i hi).trans (a.2 i hi)⟩
theorem FRD.up {w u : WW} (h : FRD w u) {k i n : Nat} (hk : 32 < k ∧ k ≤ 41 ∨ k = 32 ∧ i = 7) : FRD w (up2 u k i n) := by
  refine ⟨fun j hj => ?_, fun j hj => ?_⟩
  · rw [up2_k _ _ _ _ (show j ≠ k by omega)]; exact h.1 j hj
  · by_cases e : k = 32
    · subst e; rw [up2_d _ _ _ _ (show j ≠ i by omega)]; exact h.2 j hj
    · rw [up2_n _ _ _ _ (show 32 ≠ k by omega)]; exact h.2 j hj
theorem rNode_fr (w : WW) (p : Nat) : FRD w (rNode w p) := by
  have o : FRD w (rOpen w p) := ((((((((FRD.rf w).up (Or.inr ⟨rfl, rfl⟩)).up (Or.inl (by decide))).up (Or.inl (by decide))).up (Or.inl (by decide))).up (Or.inl (by decide))).up (Or.inl (by decide))).up (Or.inl (by decide))).up (Or.inl (by decide))
  unfold rNode
  split
  · exact o.up (Or.inl (by decide))
  · exact (o.up (Or.inl (by decide))).up (Or.inl (by decide))
theorem rClose_fr (w : WW) : FRD w (rClose w) := ((FRD.rf w).up (Or.inl (by decide))).up (Or.inl (by decide))
theorem rField_fr (w : WW) (n f : Nat) : FRD w (rField w n f) := by
  have o : FRD w (rAdd w n f) := (((FRD.rf w).up (Or.inl (by decide))).up (Or.inl (by decide))).up (Or.inl (by decide))
  unfold rField
  split
  · exact o
  · exact (((o.up (Or.inl (by decide))).up (Or.inl (by decide))).up (Or.inl (by decide))).up (Or.inl (by decide))
/-- a byte is taken -/
theorem rtk_ok {w u : WW} {ty p b : Nat} (h : RIn w ty) (e : rtk w p b = .inl u) : RIn u ty ∧ FRD w u := by
  obtain ⟨hS, hO, h⟩ := h
  unfold rtk at e
  rcases h with ⟨h4, h1, hN, h0, hn0⟩ | ⟨h4, _⟩ | ⟨h4, h⟩
  · rw [if_neg (by omega), if_neg (by omega)] at e
    split at e
    · split at e
      · cases e
      · cases e; exact ⟨RIn.close hS hO h1 hN h0 hn0, rClose_fr w⟩
    · split at e
      · split at e
        · cases e
        · cases e; exact ⟨RIn.field hS hO h4 h1 hN h0 hn0 (by omega) (by omega), rField_fr w _ _⟩
      · cases e
  · rw [if_neg (by omega), if_pos h4] at e
    cases e
  · rw [if_pos h4] at e
    split at e
    · split at e
      · cases e
      · rename_i hh
        cases e
        rcases h with ⟨c1, c2, c3, c4, c5, c6⟩ | ⟨c1, c2, c3, c4, c5, c6⟩
        · exact ⟨RIn.root hS c1 c2 c3 c4 c5 c6, rNode_fr w p⟩
        · exact ⟨RIn.node hS hO c1 c2 c3 c4 c5 c6 (by omega) (by omega), rNode_fr w p⟩
    · cases e
theorem rd_ok {ty : Nat} : ∀ (m p : Nat) (w : WW), RIn w ty → FRD w (rd m p w).1 ∧ ((rd m p w).2 = 0 → RIn (rd m p w).1 ty ∧ (rd m p w).1 40 4 = 2)
  | 0, p, w, h => ⟨FRD.rf w, fun e => ⟨h, by
      have e : (if w 40 4 = 2 then 0 else 1 + 4 * p) = 0 := e
      split at e
      · assumption
      · omega⟩⟩
  | m + 1, p, w, h => by
    rw [rd_s]
    split
    · exact rd_ok m (p + 1) w h
    · split
      · exact ⟨FRD.rf w, fun e => absurd (show 1 + 4 * p + _ = 0 from e) (by omega)⟩
      · rename_i u e
        have q := rtk_ok h e
        have r := rd_ok m (p + 1) u q.1
        exact ⟨q.2.tr r.1, r.2⟩
/-- read to the end, the tree is good -/
theorem RIn.to {w : WW} {ty : Nat} (h : RIn w ty) (e : w 40 4 = 2) : TO w ∧ RN0 w N1 ∧ 0 < w 32 7 ∧ w 33 0 = ty ∧ w 36 0 = 1 ∧ w 35 0 = 1 := by
  obtain ⟨hS, hO, h⟩ := h
  rcases h with ⟨h4, _⟩ | ⟨h4, h1, hN, h0, hn0⟩ | ⟨h4, _⟩
  · omega
  · obtain ⟨a1, a2, a3, a4, a5, a6⟩ := id hN
    refine ⟨⟨a1, fun n hn => ⟨⟨(a2 n hn).1.2.1, (a2 n hn).1.2.2.1, (a2 n hn).1.2.2.2, (a2 n hn).1.1⟩, fun i hi => ⟨a3 n i hn hi, fun hk => ?_⟩⟩⟩, hN, hn0, h0, (a6 hn0).1, (a6 hn0).2⟩
    have b := (a2 n hn).1.2.2.2
    have s := a4 n i ⟨hn, hi, hk⟩ (by show n * 6 + i ≠ 4294967295; omega)
    exact ⟨s.2.1, s.2.2.1, s.2.2.2.1⟩
  · omega
