/-! ===== what holds of the store, the tree and the needed ===== -/
def SO (w : WW) : Prop := (∀ t, t < 6 → w 17 t < 5 ∧ w 19 t ≤ 999) ∧ (∀ p, p < 24 → w 20 p < 3 ∧ w 21 p < 6 ∧ 1 ≤ w 22 p ∧ w 22 p ≤ 5) ∧ (∀ i, i < 768 → (w 27 i < 32 ∨ w 27 i = N1) ∧ w 28 i ≤ 5)
def TO (w : WW) : Prop := w 32 7 ≤ 20 ∧ ∀ n, n < w 32 7 → (1 ≤ w 36 n ∧ w 36 n ≤ 5 ∧ w 37 n ≤ 6 ∧ w 33 n < 6) ∧ ∀ i, i < w 37 n → w 38 (n * 6 + i) < 4 ∧ (w 20 (w 33 n * 4 + w 38 (n * 6 + i)) ≠ 0 → w 39 (n * 6 + i) < w 32 7 ∧ w 36 (w 39 (n * 6 + i)) = w 36 n + 1 ∧ w 33 (w 39 (n * 6 + i)) = w 21 (w 33 n * 4 + w 38 (n * 6 + i)))
theorem SO.fr {w v : WW} (h : SO w) (e : ∀ k, k < 50 → v k = w k) : SO v := by
  unfold SO
  rw [e 17 (by decide), e 19 (by decide), e 20 (by decide), e 21 (by decide), e 22 (by decide), e 27 (by decide), e 28 (by decide)]
  exact h
theorem TO.fr {w v : WW} (h : TO w) (e : ∀ k, k < 50 → v k = w k) : TO v := by
  unfold TO
  rw [e 20 (by decide), e 21 (by decide), e 32 (by decide), e 33 (by decide), e 36 (by decide), e 37 (by decide), e 38 (by decide), e 39 (by decide)]
  exact h
theorem lkw_ok {w : WW} (h : SO w) {x f j : Nat} (hx : x < 192) (hf : f < 4) (hj : j < lcw w x f) : lkw w x f j < 192 ∧ lkw w x f j / 32 = w 21 (x / 32 * 4 + f) ∧ w 20 (x / 32 * 4 + f) ≠ 0 := by
  have h1 := (h.2.1 (x / 32 * 4 + f) (by omega))
  have h2 := (h.2.2 (x * 4 + f) (by omega)).1
  have h3 := rk_lt (nI (w 29 (x * 4 + f))) j
  unfold lcw at hj
  unfold lkw
  generalize w 21 (x / 32 * 4 + f) = a at *
  generalize rk (nI (w 29 (x * 4 + f))) j = b at *
  generalize w 27 (x * 4 + f) = c at *
  by_cases e1 : w 20 (x / 32 * 4 + f) = 1
  · rw [if_pos e1] at hj ⊢
    by_cases e2 : c = N1
    · rw [if_pos e2] at hj; omega
    · have h2 : c < 32 := by rcases h2 with h2 | h2; exact h2; exact absurd h2 e2
      omega
  · rw [if_neg e1]
    by_cases e3 : w 20 (x / 32 * 4 + f) = 2
    · omega
    · rw [if_neg e1, if_neg e3] at hj; omega
theorem lcw_le {w : WW} (h : SO w) {x f : Nat} (hx : x < 192) (hf : f < 4) : lcw w x f ≤ 5 := by
  have h1 := (h.2.1 (x / 32 * 4 + f) (by omega))
  have h2 := (h.2.2 (x * 4 + f) (by omega)).2
  unfold lcw
  split
  · split <;> omega
  · split
    · split <;> omega
    · omega
def NIa (f : Nat → Nat) : Prop := ∀ x, x < 192 → f x ≤ 12
def NIb (a : Nat) (f : Nat → Nat) : Prop := a + fb_ct (fun x => f x == 0) 192 ≤ 192
def NIc (a : Nat) (q f : Nat → Nat) : Prop := ∀ i, i < a → q i < 192 ∧ f (q i) ≠ 0
def NId (f hp wt : Nat → Nat) : Prop := ∀ h, h < 5 → wt h = fb_ct (fun x => f x == 11 && hp (x / 32) == h) 192
def NIe (f q kp : Nat → Nat) (a fw now : Nat) : Prop := ∀ x, x < 192 → f x = 11 → (∃ i, fw ≤ i ∧ i < a ∧ q i = x) ∧ kp x ≤ now
def NIf (b : Nat → Nat) : Prop := ∀ x, x < 192 → b x < 1048576
def NIh (fw a : Nat) (q f : Nat → Nat) : Prop := fw ≤ a ∧ ∀ i, i < fw → f (q i) ≠ 11
def NIk (ka : Nat) (f : Nat → Nat) : Prop := ka + fb_ct (fun x => f x == 0 || f x == 11) 192 ≤ 192
def NIl (nc ka : Nat) (ty sz st ky f lf kp : Nat → Nat) (now : Nat) : Prop := nc ≤ ka ∧ ∀ c, c < nc → (ty c < 6 ∧ sz c ≤ 8 ∧ st c + sz c ≤ ka) ∧ ∀ i, i < sz c → ky (st c + i) < 32 ∧ f (ty c * 32 + ky (st c + i)) ≠ 0 ∧ f (ty c * 32 + ky (st c + i)) ≠ 11 ∧ (lf (ty c) = 0 → kp (ty c * 32 + ky (st c + i)) ≤ now)
def NI (w : WW) : Prop := NIa (w 51) ∧ NIb (w 50 1) (w 51) ∧ NIc (w 50 1) (w 53) (w 51) ∧ NId (w 51) (w 17) (w 54) ∧ NIe (w 51) (w 53) (w 25) (w 50 1) (w 50 9) (w 1 4) ∧ NIf (w 52) ∧ NIh (w 50 9) (w 50 1) (w 53) (w 51) ∧ NIk (w 42 9) (w 51) ∧ NIl (w 42 5) (w 42 9) (w 44) (w 46) (w 48) (w 49) (w 51) (w 19) (w 25) (w 1 4)
theorem ct_set {g : Nat → Nat} {x v n : Nat} (P : Nat → Nat → Bool) (hx : x < n) : fb_ct (fun y => P y (va_up g x v y)) n + (if P x (g x) then 1 else 0) = fb_ct (fun y => P y (g y)) n + (if P x v then 1 else 0) := by
  have h := fb_ct_upd (fun y => P y (g y)) (P x v) hx
  rw [← h]
  congr 1
  refine fb_ct_cong (fun k _ => ?_)
  by_cases e : k = x
  · subst e; simp [va_up]
  · simp [va_up, e]
theorem NIa.set {f : Nat → Nat} (h : NIa f) {x v : Nat} (hv : v ≤ 12) : NIa (va_up f x v) := by
  intro y hy
  unfold va_up
  split
  · exact hv
  · exact h y hy
theorem NIb.set {a : Nat} {f : Nat → Nat} (h : NIb a f) {x v : Nat} (hx : x < 192) (hv : v ≠ 0) : NIb a (va_up f x v) := by
  have := ct_set (g := f) (v := v) (fun _ z => z == 0) hx
  have hz : (v == 0) = false := by simpa using hv
  simp only [hz] at this
  unfold NIb at h ⊢
  simp at this
  omega
theorem NIb.set0 {a : Nat} {f : Nat → Nat} (h : NIb a f) {x v : Nat} (hx : x < 192) (h0 : f x = 0) (hv : v ≠ 0) : NIb (a + 1) (va_up f x v) := by
  have := ct_set (g := f) (v := v) (fun _ z => z == 0) hx
  have hz : (v == 0) = false := by simpa using hv
  simp only [hz, h0] at this
  unfold NIb at h ⊢
  simp at this
  omega
theorem NIb.lt {a : Nat} {f : Nat → Nat} (h : NIb a f) {x : Nat} (hx : x < 192) (h0 : f x = 0) : a < 192 := by
  have := h.set0 hx h0 (v := 1) (by decide)
  unfold NIb at this
  omega
theorem NIc.set {a : Nat} {q f : Nat → Nat} (h : NIc a q f) {x v : Nat} (hv : v ≠ 0) : NIc a q (va_up f x v) := by
  intro i hi
  refine ⟨(h i hi).1, ?_⟩
  unfold va_up
  split
  · exact hv
  · exact (h i hi).2
theorem NIc.push {a : Nat} {q f : Nat → Nat} (h : NIc a q f) {x : Nat} (hx : x < 192) (hv : f x ≠ 0) : NIc (a + 1) (va_up q a x) f := by
  intro i hi
  unfold va_up
  split
  · exact ⟨hx, hv⟩
  · exact h i (by omega)
theorem NId.set {f hp wt : Nat → Nat} (h : NId f hp wt) {x v : Nat} (hx : x < 192) (h0 : f x ≠ 11) (hv : v ≠ 11) : NId (va_up f x v) hp wt := by
  intro t ht
  rw [h t ht]
  have := ct_set (g := f) (v := v) (fun y z => z == 11 && hp (y / 32) == t) hx
  have h1 : (f x == 11) = false := by simpa using h0
  have h2 : (v == 11) = false := by simpa using hv
  simp only [h1, h2] at this
  simp at this
  omega
theorem NId.set1 {f hp wt : Nat → Nat} (h : NId f hp wt) {x : Nat} (hx : x < 192) (h0 : f x ≠ 11) : NId (va_up f x 11) hp (va_up wt (hp (x / 32)) (wt (hp (x / 32)) + 1)) := by
  intro t ht
  have := ct_set (g := f) (v := 11) (fun y z => z == 11 && hp (y / 32) == t) hx
  have h1 : (f x == 11) = false := by simpa using h0
  simp only [h1] at this
  have h3 := h t ht
  unfold va_up at this ⊢
  by_cases e : t = hp (x / 32)
  · subst e
    simp at this h3 ⊢
    omega
  · have e2 : (hp (x / 32) == t) = false := by simpa using fun q => e q.symm
    simp only [e2] at this
    simp [e] at this h3 ⊢
    omega
theorem NId.set2 {f hp wt : Nat → Nat} (h : NId f hp wt) {x v : Nat} (hx : x < 192) (h0 : f x = 11) (hv : v ≠ 11) (hh : hp (x / 32) < 5) : 1 ≤ wt (hp (x / 32)) ∧ NId (va_up f x v) hp (va_up wt (hp (x / 32)) (wt (hp (x / 32)) - 1)) := by
  have hv2 : (v == 11) = false := by simpa using hv
  constructor
  · rw [h _ hh]
    have := ct_set (g := f) (v := v) (fun y z => z == 11 && hp (y / 32) == hp (x / 32)) hx
    simp only [h0, hv2] at this
    simp at this ⊢
    omega
  intro t ht
  have := ct_set (g := f) (v := v) (fun y z => z == 11 && hp (y / 32) == t) hx
  simp only [h0, hv2] at this
  have h3 := h t ht
  unfold va_up at this ⊢
  by_cases e : t = hp (x / 32)
  · subst e
    simp at this h3 ⊢
    omega
  · have e2 : (hp (x / 32) == t) = false := by simpa using fun q => e q.symm
    simp only [e2] at this
    simp [e] at this h3 ⊢
    omega
theorem NIe.set {f q kp : Nat → Nat} {a fw now : Nat} (h : NIe f q kp a fw now) {x v : Nat} (hv : v ≠ 11) : NIe (va_up f x v) q kp a fw now := by
  intro y hy e
  unfold va_up at e
  split at e
  · exact absurd e hv
  · exact h y hy e
theorem NIe.push {f q kp : Nat → Nat} {a fw now : Nat} (h : NIe f q kp a fw now) (ha : fw ≤ a) {x : Nat} (hk : kp x ≤ now) : NIe (va_up f x 11) (va_up q a x) kp (a + 1) fw now := by
  intro y hy e
  unfold va_up at e
  by_cases z : y = x
  · subst z
    exact ⟨⟨a, ha, by omega, by simp [va_up]⟩, hk⟩
  · rw [if_neg z] at e
    obtain ⟨⟨i, h1, h2, h3⟩, h4⟩ := h y hy e
    exact ⟨⟨i, h1, by omega, by rw [va_up_ne _ _ (by omega)]; exact h3⟩, h4⟩
theorem NIh.set {fw a : Nat} {q f : Nat → Nat} (h : NIh fw a q f) {x v : Nat} (hv : v ≠ 11) : NIh fw a q (va_up f x v) := by
  refine ⟨h.1, fun i hi => ?_⟩
  unfold va_up
  split
  · exact hv
  · exact h.2 i hi
theorem NIh.push {fw a : Nat} {q f : Nat → Nat} (h : NIh fw a q f) (hc : NIc a q f) {x : Nat} (h0 : f x = 0) : NIh fw (a + 1) (va_up q a x) (va_up f x 11) := by
  refine ⟨by have := h.1; omega, fun i hi => ?_⟩
  have h1 := h.1
  rw [show va_up q a x i = q i from va_up_ne q x (by omega), va_up_ne]
  · exact h.2 i hi
  · intro e
    exact (hc i (by omega)).2 (by rw [e]; exact h0)
theorem NIk.set {ka : Nat} {f : Nat → Nat} (h : NIk ka f) {x v : Nat} (hx : x < 192) (hv : f x = 0 ∨ f x = 11 ∨ (v ≠ 0 ∧ v ≠ 11)) : NIk ka (va_up f x v) := by
  have := ct_set (g := f) (v := v) (fun _ z => z == 0 || z == 11) hx
  unfold NIk at h ⊢
  have hb : (if (f x == 0 || f x == 11) = true then 1 else 0) ≤ 1 := by split <;> omega
  have hb2 : (if (v == 0 || v == 11) = true then 1 else 0) ≤ (if (f x == 0 || f x == 11) = true then 1 else 0) := by
    rcases hv with e | e | e
    · rw [e]; split <;> simp
    · rw [e]; split <;> simp
    · have e1 : (v == 0 || v == 11) = false := by simp [e.1, e.2]
      rw [e1]; simp
  omega
theorem NIk.add {ka : Nat} {f : Nat → Nat} (h : NIk ka f) {x : Nat} (hx : x < 192) (h0 : f x = 11) : ka < 192 ∧ NIk (ka + 1) (va_up f x 12) := by
  have := ct_set (g := f) (v := 12) (fun _ z => z == 0 || z == 11) hx
  unfold NIk at h ⊢
  simp only [h0] at this
  simp at this ⊢
  omega
theorem NIl.set {nc ka : Nat} {ty sz st ky f lf kp : Nat → Nat} {now : Nat} (h : NIl nc ka ty sz st ky f lf kp now) {x v : Nat} (hv : f x = 0 ∨ f x = 11 ∨ (v ≠ 0 ∧ v ≠ 11)) : NIl nc ka ty sz st ky (va_up f x v) lf kp now := by
  refine ⟨h.1, fun c hc => ⟨(h.2 c hc).1, fun i hi => ?_⟩⟩
  obtain ⟨h1, h2, h3, h4⟩ := (h.2 c hc).2 i hi
  refine ⟨h1, ?_, ?_, h4⟩
  · unfold va_up
    split
    · rename_i e
      rcases hv with z | z | z
      · rw [e] at h2; exact absurd z h2
      · rw [e] at h3; exact absurd z h3
      · exact z.1
    · exact h2
  · unfold va_up
    split
    · rename_i e
      rcases hv with z | z | z
      · rw [e] at h2; exact absurd z h2
      · rw [e] at h3; exact absurd z h3
      · exact z.2
    · exact h3
theorem or_lt {a n : Nat} (ha : a < 1048576) (hn : n < 20) : a ||| 2 ^ n < 1048576 := by
  have h2 : 2 ^ n < 2 ^ 20 := Nat.pow_lt_pow_right (by decide) hn
  exact Nat.or_lt_two_pow (n := 20) ha h2
theorem NI.mark {w : WW} (h : NI w) {n x : Nat} (hn : n < 20) : NI (up2 w 52 x (w 52 x ||| 2 ^ n)) := by
  obtain ⟨h1, h2, h3, h4, h5, h6, h7, h8, h9⟩ := h
  refine ⟨h1, h2, h3, h4, h5, ?_, h7, h8, h9⟩
  intro y hy
  show va_up (w 52) x (w 52 x ||| 2 ^ n) y < 1048576
  unfold va_up
  split
  · rename_i e; subst e; exact or_lt (h6 y hy) hn
  · exact h6 y hy
/-- a thing's fate set to what neither waits nor is unseen -/
theorem NI.fate {w : WW} (h : NI w) {x v : Nat} (hx : x < 192) (h0 : w 51 x ≠ 11) (hv : v ≤ 12) (hv0 : v ≠ 0) (hv1 : v ≠ 11) : NI (up2 w 51 x v) := by
  obtain ⟨h1, h2, h3, h4, h5, h6, h7, h8, h9⟩ := h
  exact ⟨h1.set hv, h2.set hx hv0, h3.set hv0, h4.set hx h0 hv1, h5.set hv1, h6, h7.set hv1, h8.set hx (Or.inr (Or.inr ⟨hv0, hv1⟩)), h9.set (Or.inr (Or.inr ⟨hv0, hv1⟩))⟩
theorem NI.meet {w : WW} (h : NI w) {x : Nat} (hx : x < 192) (h0 : w 51 x = 0) : NI (aMeet w x) := by
  unfold aMeet
  split
  · exact h.fate hx (by omega) (by decide) (by decide) (by decide)
  · split
    · rename_i hk
      obtain ⟨h1, h2, h3, h4, h5, h6, h7, h8, h9⟩ := h
      exact ⟨h1.set (by decide), h2.set0 hx h0 (by decide), (h3.set (v := 11) (by decide)).push hx (by rw [va_up_self]; decide), h4.set1 hx (by omega), h5.push h7.1 hk, h6, h7.push h3 h0, h8.set hx (Or.inl h0), h9.set (Or.inl h0)⟩
    · exact h.fate hx (by omega) (by decide) (by decide) (by decide)
theorem NI.mk2 {w : WW} (h : NI w) {n x : Nat} (hn : n < 20) (hx : x < 192) : NI (amk w n x) := by
  unfold amk
  split
  · rename_i e
    exact (h.mark hn).meet hx e
  · exact h.mark hn
/-- a node that may be asked for a thing -/
def OKn (w : WW) (k n x : Nat) : Prop := n < w 32 7 ∧ x < 192 ∧ x / 32 = w 33 n ∧ w 36 n + k = 6
theorem OKn.fr {w v : WW} {k n x : Nat} (h : OKn w k n x) (e : ∀ k, k < 50 → v k = w k) : OKn v k n x := by
  unfold OKn
  rw [e 32 (by decide), e 33 (by decide), e 36 (by decide)]
  exact h
theorem OKn.child {w : WW} (hS : SO w) (hT : TO w) {k n x i j : Nat} (h : OKn w (k + 1) n x) (hi : i < w 37 n) (hj : j < lcw w x (w 38 (n * 6 + i))) : OKn w k (w 39 (n * 6 + i)) (lkw w x (w 38 (n * 6 + i)) j) := by
  obtain ⟨h1, h2, h3, h4⟩ := h
  have t := hT.2 n h1
  have t2 := t.2 i hi
  have l := lkw_ok hS h2 t2.1 hj
  have c := t2.2 (by rw [← h3]; exact l.2.2)
  refine ⟨c.1, l.1, ?_, by omega⟩
  rw [l.2.1, c.2.2, h3]
theorem need_ni : ∀ (k n x : Nat) (w : WW), SO w → TO w → NI w → OKn w k n x → NI (need k n x w)
  | 0, _, _, _, _, _, h, _ => h
  | k + 1, n, x, w, hS, hT, h, ho => by
    have hn : n < 20 := Nat.lt_of_lt_of_le ho.1 hT.1
    rw [need_s]
    split
    · exact h
    · split
      · unfold fol
        refine (itr_ind (fun _ v => NI v ∧ FRN w v) ⟨h.mk2 hn ho.2.1, (FRN.rf w).mark n x⟩ _ (fun i b hi hb => ?_)).1
        unfold folS
        refine itr_ind (fun _ v => NI v ∧ FRN w v) hb _ (fun j b hj hb => ⟨?_, hb.2.tr (need_fr k _ _ b)⟩)
        exact need_ni k _ _ b (hS.fr hb.2.1) (hT.fr hb.2.1) hb.1 ((ho.child hS hT hi hj).fr hb.2.1)
      · exact h.mk2 hn ho.2.1
