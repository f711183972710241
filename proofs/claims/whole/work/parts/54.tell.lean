/-! ===== what is told: numbers, whether it is there, whether a null is in it ===== -/
abbrev Tel : Type := List Nat × Bool × Bool
def tls (rc : Nat → Nat → Tel) (c : Nat) (lk : Nat → Nat) : Nat → Tel
  | 0 => ([], true, false)
  | j + 1 => ((tls rc c lk j).1 ++ (rc c (lk j)).1, (tls rc c lk j).2.1 && (rc c (lk j)).2.1, (tls rc c lk j).2.2 || (rc c (lk j)).2.2)
def tfd (w : WW) (rc : Nat → Nat → Tel) (n x i : Nat) : Tel :=
  if w 20 (x / 32 * 4 + w 38 (n * 6 + i)) = 0 then ([w 26 (x * 4 + w 38 (n * 6 + i))], true, false)
  else if w 20 (x / 32 * 4 + w 38 (n * 6 + i)) = 2 then (lcw w x (w 38 (n * 6 + i)) :: (tls rc (w 39 (n * 6 + i)) (lkw w x (w 38 (n * 6 + i))) (lcw w x (w 38 (n * 6 + i)))).1, (tls rc (w 39 (n * 6 + i)) (lkw w x (w 38 (n * 6 + i))) (lcw w x (w 38 (n * 6 + i)))).2)
  else if lcw w x (w 38 (n * 6 + i)) = 0 then ([0, 2], false, true) else tls rc (w 39 (n * 6 + i)) (lkw w x (w 38 (n * 6 + i))) (lcw w x (w 38 (n * 6 + i)))
/-- a field that must be there and isn't -/
def bad (w : WW) (rc : Nat → Nat → Tel) (n x i : Nat) : Prop := (tfd w rc n x i).2.1 = false ∧ w 23 (x / 32 * 4 + w 38 (n * 6 + i)) ≠ 0
def tfs (w : WW) (rc : Nat → Nat → Tel) (n x : Nat) : Nat → List Nat × Bool
  | 0 => ([1], false)
  | i + 1 => ((tfs w rc n x i).1 ++ (tfd w rc n x i).1, (tfs w rc n x i).2 || (tfd w rc n x i).2.2)
noncomputable def TT (w : WW) : Nat → Nat → Nat → Tel
  | 0, _, x => ([0, w 51 x], false, true)
  | k + 1, n, x => if w 51 x = 10 then @ite Tel (∃ i, i < w 37 n ∧ bad w (TT w k) n x i) (Classical.propDecidable _) ([0, 6], false, true) ((tfs w (TT w k) n x (w 37 n)).1, true, (tfs w (TT w k) n x (w 37 n)).2) else ([0, w 51 x], false, true)
theorem TT_s (w : WW) (k n x : Nat) : TT w (k + 1) n x = if w 51 x = 10 then @ite Tel (∃ i, i < w 37 n ∧ bad w (TT w k) n x i) (Classical.propDecidable _) ([0, 6], false, true) ((tfs w (TT w k) n x (w 37 n)).1, true, (tfs w (TT w k) n x (w 37 n)).2) else ([0, w 51 x], false, true) := rfl
/-! ===== how much is told at most ===== -/
def wtc (w : WW) (rc : Nat → Nat) (n i : Nat) : Nat := if w 20 (w 33 n * 4 + w 38 (n * 6 + i)) = 0 then 0 else (if w 20 (w 33 n * 4 + w 38 (n * 6 + i)) = 2 then w 22 (w 33 n * 4 + w 38 (n * 6 + i)) else 1) * rc (w 39 (n * 6 + i))
def wtf (w : WW) (rc : Nat → Nat) (n : Nat) : Nat → Nat
  | 0 => 0
  | i + 1 => wtf w rc n i + wtc w rc n i
def Wt (w : WW) : Nat → Nat → Nat
  | 0, _ => 0
  | k + 1, n => 1 + wtf w (Wt w k) n (w 37 n)
theorem Wt_s (w : WW) (k n : Nat) : Wt w (k + 1) n = 1 + wtf w (Wt w k) n (w 37 n) := rfl
theorem wtf_mono (w : WW) (rc : Nat → Nat) (n i : Nat) : ∀ m, wtf w rc n i ≤ wtf w rc n (i + m)
  | 0 => Nat.le_refl _
  | m + 1 => Nat.le_trans (wtf_mono w rc n i m) (Nat.le_add_right _ _)
/-- the fields up to i, told, and what the rest may take -/
theorem wtf_room {w : WW} {rc : Nat → Nat} {n i : Nat} (hi : i < w 37 n) (h6 : w 37 n ≤ 6) : 1 + (i + 7 * wtf w rc n i) + (1 + 7 * wtc w rc n i) ≤ 7 * (1 + wtf w rc n (w 37 n)) := by
  have := wtf_mono w rc n (i + 1) (w 37 n - (i + 1))
  rw [show i + 1 + (w 37 n - (i + 1)) = w 37 n by omega] at this
  have e : wtf w rc n (i + 1) = wtf w rc n i + wtc w rc n i := rfl
  omega
theorem tls_len {rc : Nat → Nat → Tel} {c B : Nat} {lk : Nat → Nat} : ∀ j, (∀ i, i < j → (rc c (lk i)).1.length ≤ B) → (tls rc c lk j).1.length ≤ j * B
  | 0, _ => Nat.zero_le _
  | j + 1, h => by
    show ((tls rc c lk j).1 ++ (rc c (lk j)).1).length ≤ (j + 1) * B
    rw [List.length_append, Nat.succ_mul]
    have := tls_len j (fun i hi => h i (by omega))
    have := h j (Nat.lt_succ_self j)
    omega
def LenS (w : WW) (k : Nat) : Prop := ∀ n x, OKn w k n x → (TT w k n x).1.length ≤ 7 * Wt w k n
theorem Wt_pos {w : WW} (hT : TO w) {k n x : Nat} (ho : OKn w k n x) : 1 ≤ Wt w k n := by
  cases k with
  | zero => have := (hT.2 n ho.1).1; have := ho.2.2.2; omega
  | succ k => rw [Wt_s]; omega
/-- of a field with links: kind, most, weight -/
theorem wtc_ge {w : WW} (hS : SO w) (hT : TO w) {k n x i : Nat} (ho : OKn w (k + 1) n x) (hi : i < w 37 n) (h0 : w 20 (x / 32 * 4 + w 38 (n * 6 + i)) ≠ 0) : lcw w x (w 38 (n * 6 + i)) * (7 * Wt w k (w 39 (n * 6 + i))) ≤ 7 * wtc w (Wt w k) n i ∧ 1 ≤ wtc w (Wt w k) n i := by
  have t := hT.2 n ho.1
  have t2 := t.2 i hi
  have hx := ho.2.1
  have s := hS.2.1 (x / 32 * 4 + w 38 (n * 6 + i)) (by omega)
  have e33 := ho.2.2.1
  have c := t2.2 (by rw [← e33]; exact h0)
  have hoc : 1 ≤ Wt w k (w 39 (n * 6 + i)) := by
    cases k with
    | zero => have := ho.2.2.2; have := (hT.2 _ c.1).1; omega
    | succ k => rw [Wt_s]; omega
  unfold wtc
  rw [← e33, if_neg h0]
  generalize Wt w k (w 39 (n * 6 + i)) = W at *
  unfold lcw
  by_cases z : w 20 (x / 32 * 4 + w 38 (n * 6 + i)) = 2
  · rw [if_neg (by omega), if_pos z, if_pos z]
    have hm : (if w 22 (x / 32 * 4 + w 38 (n * 6 + i)) < w 28 (x * 4 + w 38 (n * 6 + i)) then w 22 (x / 32 * 4 + w 38 (n * 6 + i)) else w 28 (x * 4 + w 38 (n * 6 + i))) ≤ w 22 (x / 32 * 4 + w 38 (n * 6 + i)) := by split <;> omega
    generalize (if w 22 (x / 32 * 4 + w 38 (n * 6 + i)) < w 28 (x * 4 + w 38 (n * 6 + i)) then w 22 (x / 32 * 4 + w 38 (n * 6 + i)) else w 28 (x * 4 + w 38 (n * 6 + i))) = a at *
    have h1 : a * (7 * W) ≤ w 22 (x / 32 * 4 + w 38 (n * 6 + i)) * (7 * W) := Nat.mul_le_mul_right _ hm
    have h2 : w 22 (x / 32 * 4 + w 38 (n * 6 + i)) * (7 * W) = 7 * (w 22 (x / 32 * 4 + w 38 (n * 6 + i)) * W) := by rw [Nat.mul_left_comm]
    have h3 : 1 * 1 ≤ w 22 (x / 32 * 4 + w 38 (n * 6 + i)) * W := Nat.mul_le_mul s.2.2.1 hoc
    omega
  · rw [if_pos (by omega), if_neg z]
    have hm : (if w 27 (x * 4 + w 38 (n * 6 + i)) = N1 then 0 else 1) ≤ 1 := by split <;> omega
    generalize (if w 27 (x * 4 + w 38 (n * 6 + i)) = N1 then 0 else 1) = a at *
    have h1 : a * (7 * W) ≤ 1 * (7 * W) := Nat.mul_le_mul_right _ hm
    omega
theorem tfd_len {w : WW} (hS : SO w) (hT : TO w) {k n x i : Nat} (hL : LenS w k) (ho : OKn w (k + 1) n x) (hi : i < w 37 n) : (tfd w (TT w k) n x i).1.length ≤ 1 + 7 * wtc w (Wt w k) n i := by
  unfold tfd
  split
  · simp
  · rename_i h0
    have g := wtc_ge hS hT ho hi h0
    have tl := tls_len (rc := TT w k) (c := w 39 (n * 6 + i)) (lk := lkw w x (w 38 (n * 6 + i))) (B := 7 * Wt w k (w 39 (n * 6 + i))) (lcw w x (w 38 (n * 6 + i))) (fun j hj => hL _ _ (ho.child hS hT hi hj))
    split
    · simp only [List.length_cons]
      omega
    · split
      · simp; omega
      · omega
theorem tfs_len {w : WW} (hS : SO w) (hT : TO w) {k n x : Nat} (hL : LenS w k) (ho : OKn w (k + 1) n x) : ∀ i, i ≤ w 37 n → (tfs w (TT w k) n x i).1.length ≤ 1 + (i + 7 * wtf w (Wt w k) n i)
  | 0, _ => by simp [tfs]
  | i + 1, hi => by
    have h1 := tfs_len hS hT hL ho i (by omega)
    have h2 := tfd_len hS hT hL ho (show i < w 37 n by omega)
    have e : wtf w (Wt w k) n (i + 1) = wtf w (Wt w k) n i + wtc w (Wt w k) n i := rfl
    show ((tfs w (TT w k) n x i).1 ++ (tfd w (TT w k) n x i).1).length ≤ _
    rw [List.length_append]
    omega
theorem TT_len {w : WW} (hS : SO w) (hT : TO w) : ∀ k, LenS w k
  | 0 => by
    intro n x ho
    have := (hT.2 n ho.1).1
    have := ho.2.2.2
    omega
  | k + 1 => by
    intro n x ho
    have t := (hT.2 n ho.1).1
    rw [TT_s, Wt_s]
    split
    · split
      · simp; omega
      · have := tfs_len hS hT (TT_len hS hT k) ho (w 37 n) (Nat.le_refl _)
        show (tfs w (TT w k) n x (w 37 n)).1.length ≤ _
        omega
    · simp; omega
/-! ===== the class tells ===== -/
def TLD (w : WW) (l : List Nat) (h : Bool) (u : WW) : Prop := (∀ k, k ≠ 55 → k ≠ 56 → u k = w k) ∧ (∀ i, i ≠ 1 → i ≠ 5 → u 55 i = w 55 i) ∧ u 55 1 = w 55 1 + l.length ∧ u 55 5 = (if h = true then 1 else w 55 5) ∧ (∀ i, i < w 55 1 → u 56 i = w 56 i) ∧ ∀ i, i < l.length → u 56 (w 55 1 + i) = l.getD i 0
theorem TLD.rf (w : WW) : TLD w [] false w := ⟨fun _ _ _ => rfl, fun _ _ _ => rfl, rfl, rfl, fun _ _ => rfl, fun i hi => absurd hi (Nat.not_lt_zero i)⟩
theorem TLD.tr {w u t : WW} {l m : List Nat} {h g : Bool} (a : TLD w l h u) (b : TLD u m g t) : TLD w (l ++ m) (h || g) t := by
  obtain ⟨a1, a2, a3, a4, a5, a6⟩ := a
  obtain ⟨b1, b2, b3, b4, b5, b6⟩ := b
  refine ⟨fun k k1 k2 => (b1 k k1 k2).trans (a1 k k1 k2), fun i i1 i2 => (b2 i i1 i2).trans (a2 i i1 i2), ?_, ?_, fun i hi => ?_, fun i hi => ?_⟩
  · rw [b3, a3, List.length_append]; omega
  · rw [b4, a4]
    cases h <;> cases g <;> simp
  · rw [b5 i (by omega), a5 i hi]
  · rw [List.length_append] at hi
    by_cases z : i < l.length
    · rw [b5 _ (by omega), a6 i z, List.getD_eq_getElem?_getD, List.getD_eq_getElem?_getD, List.getElem?_append_left z]
    · rw [show w 55 1 + i = u 55 1 + (i - l.length) by omega, b6 _ (by omega), List.getD_eq_getElem?_getD, List.getD_eq_getElem?_getD, List.getElem?_append_right (by omega)]
theorem TLD.put {w u : WW} {l : List Nat} {h : Bool} (a : TLD w l h u) (v : Nat) : TLD w (l ++ [v]) h (up2 (up2 u 56 (u 55 1) v) 55 1 (u 55 1 + 1)) := by
  have b : TLD u [v] false (up2 (up2 u 56 (u 55 1) v) 55 1 (u 55 1 + 1)) := by
    refine ⟨fun k k1 k2 => by rw [up2_k _ _ _ _ k1, up2_k _ _ _ _ k2], fun i i1 i2 => ?_, rfl, rfl, fun i hi => va_up_ne _ _ (show i ≠ u 55 1 by omega), fun i hi => ?_⟩
    · rw [up2_d _ _ _ _ i1]; rfl
    · have : i = 0 := by simpa using hi
      subst this
      exact va_up_self _ _ _
  have := a.tr b
  rw [Bool.or_false] at this
  exact this
theorem c_49 {d : Nat} {w : WW} {τ : Nat → Nat → Int64} {v : Nat} (hn : w 55 1 < 3500) {Post : Option Value → Sto → Prop} (hp : Post none (stt (nw (up2 (up2 w 56 (w 55 1) v) 55 1 (w 55 1 + 1))) τ)) : Ex (d + 1) 49 [.ref 55, .int (nI v)] (stt (nw w) τ) 0 0 Post := by
  refine x_49 (σ := nw w) (n := w 55 1) rfl hn ?_
  unfold c_put
  rw [nw_up (n := v) rfl, nw_up (n := w 55 1 + 1) rfl]
  exact hp
def aNull (w : WW) (v : Nat) : WW := up2 (up2 (up2 (up2 (up2 w 55 5 1) 56 (w 55 1) 0) 55 1 (w 55 1 + 1)) 56 (w 55 1 + 1) v) 55 1 (w 55 1 + 1 + 1)
theorem c_48 {d : Nat} {w : WW} {τ : Nat → Nat → Int64} {v : Nat} (hn : w 55 1 + 1 < 3500) {Post : Option Value → Sto → Prop} (hp : Post (some (.int 0)) (stt (nw (aNull w v)) τ)) : Ex (d + 2) 48 [.ref 55, .int (nI v)] (stt (nw w) τ) 0 0 Post := by
  refine x_48 (σ := nw w) (n := w 55 1) rfl hn ?_
  unfold c_put
  rw [nw_up (v := 1) (n := 1) rfl, nw_up (v := 0) (n := 0) rfl, nw_up (n := w 55 1 + 1) rfl, nw_up (n := v) rfl, nw_up (n := w 55 1 + 1 + 1) rfl]
  exact hp
theorem TLD.null (w : WW) (v : Nat) : TLD w [0, v] true (aNull w v) := by
  unfold aNull
  refine ⟨fun k k1 k2 => by rw [up2_k _ _ _ _ k1, up2_k _ _ _ _ k2, up2_k _ _ _ _ k1, up2_k _ _ _ _ k2, up2_k _ _ _ _ k1], fun i i1 i2 => ?_, rfl, rfl, fun i hi => ?_, fun i hi => ?_⟩
  · show va_up (va_up (va_up (w 55) 5 1) 1 _) 1 _ i = _
    rw [va_up_ne _ _ i1, va_up_ne _ _ i1, va_up_ne _ _ i2]
  · show va_up (va_up (w 56) (w 55 1) 0) (w 55 1 + 1) v i = _
    rw [va_up_ne _ _ (by omega), va_up_ne _ _ (by omega)]
  · show va_up (va_up (w 56) (w 55 1) 0) (w 55 1 + 1) v (w 55 1 + i) = _
    have hi : i < 2 := hi
    rcases (show i = 0 ∨ i = 1 by omega) with rfl | rfl
    · rw [va_up_ne _ _ (by omega)]; exact va_up_self _ _ _
    · exact va_up_self _ _ _
/-- taken back and told as null -/
theorem TLD.back {w u : WW} {l : List Nat} {h : Bool} (a : TLD w l h u) (v : Nat) : TLD w [0, v] true (aNull (up2 u 55 1 (w 55 1)) v) := by
  obtain ⟨a1, a2, a3, a4, a5, a6⟩ := a
  obtain ⟨b1, b2, b3, b4, b5, b6⟩ := TLD.null (up2 u 55 1 (w 55 1)) v
  refine ⟨fun k k1 k2 => ?_, fun i i1 i2 => ?_, b3, b4, fun i hi => ?_, fun i hi => b6 i hi⟩
  · rw [b1 k k1 k2, up2_k _ _ _ _ k1]; exact a1 k k1 k2
  · rw [b2 i i1 i2, up2_d _ _ _ _ i1]; exact a2 i i1 i2
  · rw [b5 i hi]; exact a5 i hi
def bn (b : Bool) : Nat := if b = true then 1 else 0
def TelS (d k : Nat) : Prop := ∀ (n x dp : Nat) (w u : WW) (τ : Nat → Nat → Int64) (Post : Option Value → Sto → Prop), SO w → TO w → ZO w → (∀ x, x < 192 → w 51 x ≤ 12) → (∀ k, k ≠ 55 → k ≠ 56 → u k = w k) → OKn w k n x → dp + k = 6 → u 55 1 + 7 * Wt w k n ≤ 3500 → (∀ t, TLD u (TT w k n x).1 (TT w k n x).2.2 t → Post (some (.int (nI (bn (TT w k n x).2.1)))) (stt (nw t) τ)) → Ex (d + 2 * k + 3) 47 [.ref 55, .int (nI n), .int (nI x), .int (nI dp)] (stt (nw u) τ) 0 0 Post
def FldS (d k : Nat) : Prop := ∀ (n x dp i : Nat) (w u : WW) (τ : Nat → Nat → Int64) (Post : Option Value → Sto → Prop), SO w → TO w → ZO w → (∀ x, x < 192 → w 51 x ≤ 12) → (∀ k, k ≠ 55 → k ≠ 56 → u k = w k) → OKn w (k + 1) n x → dp + k = 5 → i < w 37 n → u 55 1 + (1 + 7 * wtc w (Wt w k) n i) ≤ 3500 → (∀ t, TLD u (tfd w (TT w k) n x i).1 (tfd w (TT w k) n x i).2.2 t → Post (some (.int (nI (bn (tfd w (TT w k) n x i).2.1)))) (stt (nw t) τ)) → Ex (d + 2 * k + 4) 50 [.ref 55, .int (nI (n * 6 + i)), .int (nI x), .int (nI dp)] (stt (nw u) τ) 0 0 Post
theorem bn_t : nI (bn true) = 1 := rfl
theorem bn_f : nI (bn false) = 0 := rfl
set_option maxRecDepth 20000 in
theorem l_50 {d k n x dp i : Nat} {w u : WW} {τ : Nat → Nat → Int64} {Post : Option Value → Sto → Prop} (hN : TelS d k) (hS : SO w) (hT : TO w) (hZ : ZO w) (h51 : ∀ x, x < 192 → w 51 x ≤ 12) (hu : ∀ k, k ≠ 55 → k ≠ 56 → u k = w k) (ho : OKn w (k + 1) n x) (hdp : dp + k = 5) (hi : i < w 37 n) (hrm : u 55 1 + lcw w x (w 38 (n * 6 + i)) * (7 * Wt w k (w 39 (n * 6 + i))) ≤ 3500) (hp : ∀ t, TLD u (tls (TT w k) (w 39 (n * 6 + i)) (lkw w x (w 38 (n * 6 + i))) (lcw w x (w 38 (n * 6 + i)))).1 (tls (TT w k) (w 39 (n * 6 + i)) (lkw w x (w 38 (n * 6 + i))) (lcw w x (w 38 (n * 6 + i)))).2.2 t → Post (some (.int (nI (bn (tls (TT w k) (w 39 (n * 6 + i)) (lkw w x (w 38 (n * 6 + i))) (lcw w x (w 38 (n * 6 + i)))).2.1)))) (stt (nw t) τ)) : ∀ (nn : Nat) (j fl : Nat) (t : WW), j ≤ lcw w x (w 38 (n * 6 + i)) → fl = bn (tls (TT w k) (w 39 (n * 6 + i)) (lkw w x (w 38 (n * 6 + i))) j).2.1 → TLD u (tls (TT w k) (w 39 (n * 6 + i)) (lkw w x (w 38 (n * 6 + i))) j).1 (tls (TT w k) (w 39 (n * 6 + i)) (lkw w x (w 38 (n * 6 + i))) j).2.2 t → lcw w x (w 38 (n * 6 + i)) - j < nn → RU_50 (d + 2 * k + 3) (0, 0) Post 100 [(8, .int (nI j)), (7, .int (nI fl)), (6, .int (nI (lcw w x (w 38 (n * 6 + i))))), (4, .int (nI (w 38 (n * 6 + i)))), (0, .ref 55), (1, .int (nI (n * 6 + i))), (2, .int (nI x)), (3, .int (nI dp))] [] (stt (nw t) τ) 0 0 := by
  intro nn
  induction nn with
  | zero => intro j fl t hj hfl ht hms; exact absurd hms (by omega)
  | succ nn ih =>
    intro j fl t hj hfl ht hms
    have hx := ho.2.1
    have t0 := hT.2 n ho.1
    have h38 : w 38 (n * 6 + i) < 4 := (t0.2 i hi).1
    have hl := lcw_le hS hx h38
    have hn1 := ho.1
    have hT1 := hT.1
    have t01 := t0.1
    have et : ∀ k, k ≠ 55 → k ≠ 56 → t k = w k := fun k k1 k2 => (ht.1 k k1 k2).trans (hu k k1 k2)
    have e39 := et 39 (by decide) (by decide)
    have lct : ∀ f, lcw t x f = lcw w x f := fun f => by unfold lcw; rw [et 20 (by decide) (by decide), et 22 (by decide) (by decide), et 27 (by decide) (by decide), et 28 (by decide) (by decide)]
    have lkt : ∀ f j, lkw t x f j = lkw w x f j := fun f j => by unfold lkw; rw [et 20 (by decide) (by decide), et 21 (by decide) (by decide), et 27 (by decide) (by decide), et 29 (by decide) (by decide)]
    have hfl1 : fl ≤ 1 := by rw [hfl]; unfold bn; split <;> omega
    have hL := TT_len hS hT k
    refine R_seg sg_50_100 sk_50_100 (pc' := 104) (lv' := [(8, .int (nI j)), (7, .int (nI fl)), (6, .int (nI (lcw w x (w 38 (n * 6 + i))))), (4, .int (nI (w 38 (n * 6 + i)))), (0, .ref 55), (1, .int (nI (n * 6 + i))), (2, .int (nI x)), (3, .int (nI dp))]) (st' := [.int (nI (lcw w x (w 38 (n * 6 + i)))), .int (nI j)]) (S' := stt (nw t) τ) (kc' := 0) (ks' := 0) rfl ⟨trivial, trivial, trivial⟩ ?_
    refine R_icmp ck_50_104 (fun (c_104 : (nI (lcw w x (w 38 (n * 6 + i)))) ≤ (nI j)) => ?_) (fun (c_104 : ¬ (nI (lcw w x (w 38 (n * 6 + i)))) ≤ (nI j)) => ?_)
    · have c_104 : (lcw w x (w 38 (n * 6 + i))) ≤ j := (nI_leI (a := (lcw w x (w 38 (n * 6 + i)))) (b := j) (by omega) (by omega)).mp c_104
      refine R_seg sg_50_160 sk_50_160 (pc' := 162) (lv' := [(8, .int (nI j)), (7, .int (nI fl)), (6, .int (nI (lcw w x (w 38 (n * 6 + i))))), (4, .int (nI (w 38 (n * 6 + i)))), (0, .ref 55), (1, .int (nI (n * 6 + i))), (2, .int (nI x)), (3, .int (nI dp))]) (st' := [.int (nI fl)]) (S' := stt (nw t) τ) (kc' := 0) (ks' := 0) rfl ⟨trivial, trivial⟩ ?_
      refine R_iret ck_50_162 rfl (by rcases (show fl = 0 ∨ fl = 1 by omega) with z | z <;> rw [z] <;> rfl) ?_
      have ej : j = lcw w x (w 38 (n * 6 + i)) := by omega
      subst ej
      rw [hfl]
      exact hp t ht
    · have c_104 : j < (lcw w x (w 38 (n * 6 + i))) := Nat.not_le.mp (fun zq => c_104 ((nI_leI (a := (lcw w x (w 38 (n * 6 + i)))) (b := j) (by omega) (by omega)).mpr zq))
      have hroom : t 55 1 + 7 * Wt w k (w 39 (n * 6 + i)) ≤ 3500 := by
        have l1 := tls_len (rc := TT w k) (c := w 39 (n * 6 + i)) (lk := lkw w x (w 38 (n * 6 + i))) (B := 7 * Wt w k (w 39 (n * 6 + i))) j (fun j2 hj2 => hL _ _ (ho.child hS hT hi (by omega)))
        have l2 := ht.2.2.1
        have l3 : (j + 1) * (7 * Wt w k (w 39 (n * 6 + i))) ≤ lcw w x (w 38 (n * 6 + i)) * (7 * Wt w k (w 39 (n * 6 + i))) := Nat.mul_le_mul_right _ (by omega)
        rw [Nat.succ_mul] at l3
        omega
      refine R_seg sg_50_107 sk_50_107 (pc' := 116) (lv' := [(8, .int (nI j)), (7, .int (nI fl)), (6, .int (nI (lcw w x (w 38 (n * 6 + i))))), (4, .int (nI (w 38 (n * 6 + i)))), (0, .ref 55), (1, .int (nI (n * 6 + i))), (2, .int (nI x)), (3, .int (nI dp))]) (st' := [.int (nI (n * 6 + i)), .ref 39, .ref 55]) (S' := stt (nw t) τ) (kc' := 0) (ks' := 0) rfl ⟨trivial, trivial, rfl, rfl, trivial, trivial⟩ ?_
      refine R_iald ca_50_116 (j := n * 6 + i) rfl rfl (by omega) ?_
      show RU_50 (d + 2 * k + 3) (0, 0) Post 117 ([(8, .int (nI j)), (7, .int (nI fl)), (6, .int (nI (lcw w x (w 38 (n * 6 + i))))), (4, .int (nI (w 38 (n * 6 + i)))), (0, .ref 55), (1, .int (nI (n * 6 + i))), (2, .int (nI x)), (3, .int (nI dp))]) ([.int (nI (t 39 (n * 6 + i))), .ref 55]) (stt (nw t) τ) 0 0
      rw [e39]
      refine R_seg sg_50_117 sk_50_117 (pc' := 126) (lv' := [(8, .int (nI j)), (7, .int (nI fl)), (6, .int (nI (lcw w x (w 38 (n * 6 + i))))), (4, .int (nI (w 38 (n * 6 + i)))), (0, .ref 55), (1, .int (nI (n * 6 + i))), (2, .int (nI x)), (3, .int (nI dp))]) (st' := [.int (nI j), .int (nI (w 38 (n * 6 + i))), .int (nI x), .ref 16, .int (nI (w 39 (n * 6 + i))), .ref 55]) (S' := stt (nw t) τ) (kc' := 0) (ks' := 0) rfl ⟨trivial, rfl, trivial, trivial, trivial, trivial⟩ ?_
      refine R_virt ck_50_126 16 [.int (nI x), .int (nI (w 38 (n * 6 + i))), .int (nI j)] 0 0 (r := [.int (nI (w 39 (n * 6 + i))), .ref 55]) rfl rfl rfl (Nat.le_of_ble_eq_true rfl) (Nat.le_refl _) (Nat.le_refl _) ?_
      refine c_41 (d := d + 2 * k + 1) (hS.fr2 (fun k hk => et k (by omega) (by omega))) hx h38 (by rw [lct]; exact c_104) ?_
      rw [lkt]
      show RU_50 (d + 2 * k + 3) (0, 0) Post 129 ([(8, .int (nI j)), (7, .int (nI fl)), (6, .int (nI (lcw w x (w 38 (n * 6 + i))))), (4, .int (nI (w 38 (n * 6 + i)))), (0, .ref 55), (1, .int (nI (n * 6 + i))), (2, .int (nI x)), (3, .int (nI dp))]) ([.int (nI (lkw w x (w 38 (n * 6 + i)) j)), .int (nI (w 39 (n * 6 + i))), .ref 55]) (stt (nw t) τ) 0 0
      refine R_seg sg_50_129 sk_50_129 (pc' := 132) (lv' := [(8, .int (nI j)), (7, .int (nI fl)), (6, .int (nI (lcw w x (w 38 (n * 6 + i))))), (4, .int (nI (w 38 (n * 6 + i)))), (0, .ref 55), (1, .int (nI (n * 6 + i))), (2, .int (nI x)), (3, .int (nI dp))]) (st' := [.int ((nI dp) + 1), .int (nI (lkw w x (w 38 (n * 6 + i)) j)), .int (nI (w 39 (n * 6 + i))), .ref 55]) (S' := stt (nw t) τ) (kc' := 0) (ks' := 0) rfl ⟨trivial, trivial, trivial, trivial⟩ ?_
      rw [nI_1 dp]
      refine R_virt ck_50_132 55 [.int (nI (w 39 (n * 6 + i))), .int (nI (lkw w x (w 38 (n * 6 + i)) j)), .int (nI (dp + 1))] 0 0 (r := []) rfl rfl rfl (Nat.le_of_ble_eq_true rfl) (Nat.le_refl _) (Nat.le_refl _) ?_
      refine hN (w 39 (n * 6 + i)) (lkw w x (w 38 (n * 6 + i)) j) (dp + 1) w t τ _ hS hT hZ h51 et (ho.child hS hT hi c_104) (by omega) hroom (fun t2 hT2 => ?_)
      have hTT := ht.tr hT2
      rcases hb : (TT w k (w 39 (n * 6 + i)) (lkw w x (w 38 (n * 6 + i)) j)).2.1 with _ | _
      · rw [bn_f]
        show RU_50 (d + 2 * k + 3) (0, 0) Post 135 ([(8, .int (nI j)), (7, .int (nI fl)), (6, .int (nI (lcw w x (w 38 (n * 6 + i))))), (4, .int (nI (w 38 (n * 6 + i)))), (0, .ref 55), (1, .int (nI (n * 6 + i))), (2, .int (nI x)), (3, .int (nI dp))]) ([.int 0]) (stt (nw t2) τ) 0 0
        refine R_seg sg_50_135 sk_50_135 (pc' := 139) (lv' := [(9, .int 0), (8, .int (nI j)), (7, .int (nI fl)), (6, .int (nI (lcw w x (w 38 (n * 6 + i))))), (4, .int (nI (w 38 (n * 6 + i)))), (0, .ref 55), (1, .int (nI (n * 6 + i))), (2, .int (nI x)), (3, .int (nI dp))]) (st' := [.int (nI fl)]) (S' := stt (nw t2) τ) (kc' := 0) (ks' := 0) rfl ⟨(by decide), trivial, trivial⟩ ?_
        refine R_if ck_50_139 (fun (c_139 : (nI fl) = 0) => ?_) (fun (c_139 : ¬ (nI fl) = 0) => ?_)
        · have c_139 : fl = 0 := (nI_eq (a := fl) (b := 0) (by omega) (by omega)).mp c_139
          refine R_seg sg_50_151 sk_50_151 (pc' := 152) (lv' := [(9, .int 0), (8, .int (nI j)), (7, .int (nI fl)), (6, .int (nI (lcw w x (w 38 (n * 6 + i))))), (4, .int (nI (w 38 (n * 6 + i)))), (0, .ref 55), (1, .int (nI (n * 6 + i))), (2, .int (nI x)), (3, .int (nI dp))]) (st' := [.int 0]) (S' := stt (nw t2) τ) (kc' := 0) (ks' := 0) rfl ⟨trivial, trivial⟩ ?_
          refine R_seg sg_50_152 sk_50_152 (pc' := 157) (lv' := [(8, .int ((nI j) + 1)), (7, .int 0), (9, .int 0), (6, .int (nI (lcw w x (w 38 (n * 6 + i))))), (4, .int (nI (w 38 (n * 6 + i)))), (0, .ref 55), (1, .int (nI (n * 6 + i))), (2, .int (nI x)), (3, .int (nI dp))]) (st' := []) (S' := stt (nw t2) τ) (kc' := 0) (ks' := 0) rfl ⟨(by decide), (by decide), trivial⟩ ?_
          refine R_goto ck_50_157 ?_
          refine Runs.lv (lv := [(8, .int ((nI j) + 1)), (7, .int 0), (6, .int (nI (lcw w x (w 38 (n * 6 + i))))), (4, .int (nI (w 38 (n * 6 + i)))), (0, .ref 55), (1, .int (nI (n * 6 + i))), (2, .int (nI x)), (3, .int (nI dp))]) ?_ _ (lvS_l (show ([8, 7, 6, 4, 0, 1, 2, 3] : List Nat).Nodup from by decide) (by intro q hq; simp only [List.mem_cons, List.not_mem_nil, or_false] at hq; rcases hq with rfl | rfl | rfl | rfl | rfl | rfl | rfl | rfl <;> rfl))
          rw [nI_1 j]
          exact ih (j + 1) 0 t2 (by omega) (by show 0 = bn ((tls (TT w k) (w 39 (n * 6 + i)) (lkw w x (w 38 (n * 6 + i))) j).2.1 && (TT w k (w 39 (n * 6 + i)) (lkw w x (w 38 (n * 6 + i)) j)).2.1); rw [hb]; first | (rw [Bool.and_false]; rfl) | (rw [Bool.and_true, ← hfl]; omega)) hTT (by omega)
        · have c_139 : ¬ fl = 0 := fun zq => c_139 ((nI_eq (a := fl) (b := 0) (by omega) (by omega)).mpr zq)
          refine R_seg sg_50_142 sk_50_142 (pc' := 144) (lv' := [(9, .int 0), (8, .int (nI j)), (7, .int (nI fl)), (6, .int (nI (lcw w x (w 38 (n * 6 + i))))), (4, .int (nI (w 38 (n * 6 + i)))), (0, .ref 55), (1, .int (nI (n * 6 + i))), (2, .int (nI x)), (3, .int (nI dp))]) (st' := [.int 0]) (S' := stt (nw t2) τ) (kc' := 0) (ks' := 0) rfl ⟨trivial, trivial⟩ ?_
          refine R_if ck_50_144 (fun _ => ?_) (fun c => absurd (show (0 : Int32) = 0 from by decide) c)
          refine R_seg sg_50_151 sk_50_151 (pc' := 152) (lv' := [(9, .int 0), (8, .int (nI j)), (7, .int (nI fl)), (6, .int (nI (lcw w x (w 38 (n * 6 + i))))), (4, .int (nI (w 38 (n * 6 + i)))), (0, .ref 55), (1, .int (nI (n * 6 + i))), (2, .int (nI x)), (3, .int (nI dp))]) (st' := [.int 0]) (S' := stt (nw t2) τ) (kc' := 0) (ks' := 0) rfl ⟨trivial, trivial⟩ ?_
          refine R_seg sg_50_152 sk_50_152 (pc' := 157) (lv' := [(8, .int ((nI j) + 1)), (7, .int 0), (9, .int 0), (6, .int (nI (lcw w x (w 38 (n * 6 + i))))), (4, .int (nI (w 38 (n * 6 + i)))), (0, .ref 55), (1, .int (nI (n * 6 + i))), (2, .int (nI x)), (3, .int (nI dp))]) (st' := []) (S' := stt (nw t2) τ) (kc' := 0) (ks' := 0) rfl ⟨(by decide), (by decide), trivial⟩ ?_
          refine R_goto ck_50_157 ?_
          refine Runs.lv (lv := [(8, .int ((nI j) + 1)), (7, .int 0), (6, .int (nI (lcw w x (w 38 (n * 6 + i))))), (4, .int (nI (w 38 (n * 6 + i)))), (0, .ref 55), (1, .int (nI (n * 6 + i))), (2, .int (nI x)), (3, .int (nI dp))]) ?_ _ (lvS_l (show ([8, 7, 6, 4, 0, 1, 2, 3] : List Nat).Nodup from by decide) (by intro q hq; simp only [List.mem_cons, List.not_mem_nil, or_false] at hq; rcases hq with rfl | rfl | rfl | rfl | rfl | rfl | rfl | rfl <;> rfl))
          rw [nI_1 j]
          exact ih (j + 1) 0 t2 (by omega) (by show 0 = bn ((tls (TT w k) (w 39 (n * 6 + i)) (lkw w x (w 38 (n * 6 + i))) j).2.1 && (TT w k (w 39 (n * 6 + i)) (lkw w x (w 38 (n * 6 + i)) j)).2.1); rw [hb]; first | (rw [Bool.and_false]; rfl) | (rw [Bool.and_true, ← hfl]; omega)) hTT (by omega)
      · rw [bn_t]
        show RU_50 (d + 2 * k + 3) (0, 0) Post 135 ([(8, .int (nI j)), (7, .int (nI fl)), (6, .int (nI (lcw w x (w 38 (n * 6 + i))))), (4, .int (nI (w 38 (n * 6 + i)))), (0, .ref 55), (1, .int (nI (n * 6 + i))), (2, .int (nI x)), (3, .int (nI dp))]) ([.int 1]) (stt (nw t2) τ) 0 0
        refine R_seg sg_50_135 sk_50_135 (pc' := 139) (lv' := [(9, .int 1), (8, .int (nI j)), (7, .int (nI fl)), (6, .int (nI (lcw w x (w 38 (n * 6 + i))))), (4, .int (nI (w 38 (n * 6 + i)))), (0, .ref 55), (1, .int (nI (n * 6 + i))), (2, .int (nI x)), (3, .int (nI dp))]) (st' := [.int (nI fl)]) (S' := stt (nw t2) τ) (kc' := 0) (ks' := 0) rfl ⟨(by decide), trivial, trivial⟩ ?_
        refine R_if ck_50_139 (fun (c_139 : (nI fl) = 0) => ?_) (fun (c_139 : ¬ (nI fl) = 0) => ?_)
        · have c_139 : fl = 0 := (nI_eq (a := fl) (b := 0) (by omega) (by omega)).mp c_139
          refine R_seg sg_50_151 sk_50_151 (pc' := 152) (lv' := [(9, .int 1), (8, .int (nI j)), (7, .int (nI fl)), (6, .int (nI (lcw w x (w 38 (n * 6 + i))))), (4, .int (nI (w 38 (n * 6 + i)))), (0, .ref 55), (1, .int (nI (n * 6 + i))), (2, .int (nI x)), (3, .int (nI dp))]) (st' := [.int 0]) (S' := stt (nw t2) τ) (kc' := 0) (ks' := 0) rfl ⟨trivial, trivial⟩ ?_
          refine R_seg sg_50_152 sk_50_152 (pc' := 157) (lv' := [(8, .int ((nI j) + 1)), (7, .int 0), (9, .int 1), (6, .int (nI (lcw w x (w 38 (n * 6 + i))))), (4, .int (nI (w 38 (n * 6 + i)))), (0, .ref 55), (1, .int (nI (n * 6 + i))), (2, .int (nI x)), (3, .int (nI dp))]) (st' := []) (S' := stt (nw t2) τ) (kc' := 0) (ks' := 0) rfl ⟨(by decide), (by decide), trivial⟩ ?_
          refine R_goto ck_50_157 ?_
          refine Runs.lv (lv := [(8, .int ((nI j) + 1)), (7, .int 0), (6, .int (nI (lcw w x (w 38 (n * 6 + i))))), (4, .int (nI (w 38 (n * 6 + i)))), (0, .ref 55), (1, .int (nI (n * 6 + i))), (2, .int (nI x)), (3, .int (nI dp))]) ?_ _ (lvS_l (show ([8, 7, 6, 4, 0, 1, 2, 3] : List Nat).Nodup from by decide) (by intro q hq; simp only [List.mem_cons, List.not_mem_nil, or_false] at hq; rcases hq with rfl | rfl | rfl | rfl | rfl | rfl | rfl | rfl <;> rfl))
          rw [nI_1 j]
          exact ih (j + 1) 0 t2 (by omega) (by show 0 = bn ((tls (TT w k) (w 39 (n * 6 + i)) (lkw w x (w 38 (n * 6 + i))) j).2.1 && (TT w k (w 39 (n * 6 + i)) (lkw w x (w 38 (n * 6 + i)) j)).2.1); rw [hb]; first | (rw [Bool.and_false]; rfl) | (rw [Bool.and_true, ← hfl]; omega)) hTT (by omega)
        · have c_139 : ¬ fl = 0 := fun zq => c_139 ((nI_eq (a := fl) (b := 0) (by omega) (by omega)).mpr zq)
          refine R_seg sg_50_142 sk_50_142 (pc' := 144) (lv' := [(9, .int 1), (8, .int (nI j)), (7, .int (nI fl)), (6, .int (nI (lcw w x (w 38 (n * 6 + i))))), (4, .int (nI (w 38 (n * 6 + i)))), (0, .ref 55), (1, .int (nI (n * 6 + i))), (2, .int (nI x)), (3, .int (nI dp))]) (st' := [.int 1]) (S' := stt (nw t2) τ) (kc' := 0) (ks' := 0) rfl ⟨trivial, trivial⟩ ?_
          refine R_if ck_50_144 (fun c => absurd c (show ¬ (1 : Int32) = 0 from by decide)) (fun _ => ?_)
          refine R_seg sg_50_147 sk_50_147 (pc' := 148) (lv' := [(9, .int 1), (8, .int (nI j)), (7, .int (nI fl)), (6, .int (nI (lcw w x (w 38 (n * 6 + i))))), (4, .int (nI (w 38 (n * 6 + i)))), (0, .ref 55), (1, .int (nI (n * 6 + i))), (2, .int (nI x)), (3, .int (nI dp))]) (st' := [.int 1]) (S' := stt (nw t2) τ) (kc' := 0) (ks' := 0) rfl ⟨trivial, trivial⟩ ?_
          refine R_goto ck_50_148 ?_
          refine R_seg sg_50_152 sk_50_152 (pc' := 157) (lv' := [(8, .int ((nI j) + 1)), (7, .int 1), (9, .int 1), (6, .int (nI (lcw w x (w 38 (n * 6 + i))))), (4, .int (nI (w 38 (n * 6 + i)))), (0, .ref 55), (1, .int (nI (n * 6 + i))), (2, .int (nI x)), (3, .int (nI dp))]) (st' := []) (S' := stt (nw t2) τ) (kc' := 0) (ks' := 0) rfl ⟨(by decide), (by decide), trivial⟩ ?_
          refine R_goto ck_50_157 ?_
          refine Runs.lv (lv := [(8, .int ((nI j) + 1)), (7, .int 1), (6, .int (nI (lcw w x (w 38 (n * 6 + i))))), (4, .int (nI (w 38 (n * 6 + i)))), (0, .ref 55), (1, .int (nI (n * 6 + i))), (2, .int (nI x)), (3, .int (nI dp))]) ?_ _ (lvS_l (show ([8, 7, 6, 4, 0, 1, 2, 3] : List Nat).Nodup from by decide) (by intro q hq; simp only [List.mem_cons, List.not_mem_nil, or_false] at hq; rcases hq with rfl | rfl | rfl | rfl | rfl | rfl | rfl | rfl <;> rfl))
          rw [nI_1 j]
          exact ih (j + 1) 1 t2 (by omega) (by show 1 = bn ((tls (TT w k) (w 39 (n * 6 + i)) (lkw w x (w 38 (n * 6 + i))) j).2.1 && (TT w k (w 39 (n * 6 + i)) (lkw w x (w 38 (n * 6 + i)) j)).2.1); rw [hb]; first | (rw [Bool.and_false]; rfl) | (rw [Bool.and_true, ← hfl]; omega)) hTT (by omega)
set_option maxRecDepth 20000 in
theorem c_50 {d k : Nat} (hN : TelS d k) : FldS d k := by
  intro n x dp i w u τ Post hS hT hZ h51 hu ho hdp hi hrm hp
  have hx := ho.2.1
  have t0 := hT.2 n ho.1
  have h38 : w 38 (n * 6 + i) < 4 := (t0.2 i hi).1
  have hl := lcw_le hS hx h38
  have hn1 := ho.1
  have hT1 := hT.1
  have t01 := t0.1
  have s1 := hS.2.1 (x / 32 * 4 + w 38 (n * 6 + i)) (by omega)
  have e38 := hu 38 (by decide) (by decide)
  have e20 := hu 20 (by decide) (by decide)
  have e26 := hu 26 (by decide) (by decide)
  have lcu : lcw u x (w 38 (n * 6 + i)) = lcw w x (w 38 (n * 6 + i)) := by unfold lcw; rw [hu 20 (by decide) (by decide), hu 22 (by decide) (by decide), hu 27 (by decide) (by decide), hu 28 (by decide) (by decide)]
  refine en_50 (Nat.le_of_ble_eq_true rfl) ?_
  show RU_50 (d + 2 * k + 3) (0, 0) Post 0 ([(0, .ref 55), (1, .int (nI (n * 6 + i))), (2, .int (nI x)), (3, .int (nI dp))]) ([]) (stt (nw u) τ) 0 0
  refine R_seg sg_50_0 sk_50_0 (pc' := 8) (lv' := [(0, .ref 55), (1, .int (nI (n * 6 + i))), (2, .int (nI x)), (3, .int (nI dp))]) (st' := [.int (nI (n * 6 + i)), .ref 38]) (S' := stt (nw u) τ) (kc' := 0) (ks' := 0) rfl ⟨trivial, rfl, rfl, trivial, trivial⟩ ?_
  refine R_iald ca_50_8 (j := n * 6 + i) rfl rfl (by omega) ?_
  show RU_50 (d + 2 * k + 3) (0, 0) Post 9 ([(0, .ref 55), (1, .int (nI (n * 6 + i))), (2, .int (nI x)), (3, .int (nI dp))]) ([.int (nI (u 38 (n * 6 + i)))]) (stt (nw u) τ) 0 0
  rw [e38]
  refine R_seg sg_50_9 sk_50_9 (pc' := 25) (lv' := [(4, .int (nI (w 38 (n * 6 + i)))), (0, .ref 55), (1, .int (nI (n * 6 + i))), (2, .int (nI x)), (3, .int (nI dp))]) (st' := [.int (nI (w 38 (n * 6 + i))), .int (nI x), .ref 16, .ref 20]) (S' := stt (nw u) τ) (kc' := 0) (ks' := 0) rfl ⟨(by decide), trivial, rfl, rfl, trivial, rfl, trivial, trivial, trivial⟩ ?_
  refine R_virt ck_50_25 16 [.int (nI x), .int (nI (w 38 (n * 6 + i)))] 0 0 (r := [.ref 20]) rfl rfl rfl (Nat.le_of_ble_eq_true rfl) (Nat.le_refl _) (Nat.le_refl _) ?_
  refine x_40 (d := d + 2 * k + 2) hx h38 ?_
  show RU_50 (d + 2 * k + 3) (0, 0) Post 28 ([(4, .int (nI (w 38 (n * 6 + i)))), (0, .ref 55), (1, .int (nI (n * 6 + i))), (2, .int (nI x)), (3, .int (nI dp))]) ([.int (nI (x / 32 * 4 + w 38 (n * 6 + i))), .ref 20]) (stt (nw u) τ) 0 0
  refine R_iald ca_50_28 (j := x / 32 * 4 + w 38 (n * 6 + i)) rfl rfl (by omega) ?_
  show RU_50 (d + 2 * k + 3) (0, 0) Post 29 ([(4, .int (nI (w 38 (n * 6 + i)))), (0, .ref 55), (1, .int (nI (n * 6 + i))), (2, .int (nI x)), (3, .int (nI dp))]) ([.int (nI (u 20 (x / 32 * 4 + w 38 (n * 6 + i))))]) (stt (nw u) τ) 0 0
  rw [e20]
  refine R_seg sg_50_29 sk_50_29 (pc' := 33) (lv' := [(5, .int (nI (w 20 (x / 32 * 4 + w 38 (n * 6 + i))))), (4, .int (nI (w 38 (n * 6 + i)))), (0, .ref 55), (1, .int (nI (n * 6 + i))), (2, .int (nI x)), (3, .int (nI dp))]) (st' := [.int (nI (w 20 (x / 32 * 4 + w 38 (n * 6 + i))))]) (S' := stt (nw u) τ) (kc' := 0) (ks' := 0) rfl ⟨(by decide), trivial, trivial⟩ ?_
  refine R_if ck_50_33 (fun (c_33 : ¬ (nI (w 20 (x / 32 * 4 + w 38 (n * 6 + i)))) = 0) => ?_) (fun (c_33 : ¬ ¬ (nI (w 20 (x / 32 * 4 + w 38 (n * 6 + i)))) = 0) => ?_)
  · have c_33 : ¬ (w 20 (x / 32 * 4 + w 38 (n * 6 + i))) = 0 := fun zq => c_33 ((nI_eq (a := (w 20 (x / 32 * 4 + w 38 (n * 6 + i)))) (b := 0) (by omega) (by omega)).mpr zq)
    skip
    refine R_seg sg_50_56 sk_50_56 (pc' := 63) (lv' := [(5, .int (nI (w 20 (x / 32 * 4 + w 38 (n * 6 + i))))), (4, .int (nI (w 38 (n * 6 + i)))), (0, .ref 55), (1, .int (nI (n * 6 + i))), (2, .int (nI x)), (3, .int (nI dp))]) (st' := [.int (nI (w 38 (n * 6 + i))), .int (nI x), .ref 16]) (S' := stt (nw u) τ) (kc' := 0) (ks' := 0) rfl ⟨trivial, rfl, trivial, trivial, trivial⟩ ?_
    refine R_virt ck_50_63 16 [.int (nI x), .int (nI (w 38 (n * 6 + i)))] 0 0 (r := []) rfl rfl rfl (Nat.le_of_ble_eq_true rfl) (Nat.le_refl _) (Nat.le_refl _) ?_
    refine c_39 (d := d + 2 * k + 1) (hS.fr2 (fun k hk => hu k (by omega) (by omega))) hx h38 ?_
    rw [lcu]
    show RU_50 (d + 2 * k + 3) (0, 0) Post 66 ([(5, .int (nI (w 20 (x / 32 * 4 + w 38 (n * 6 + i))))), (4, .int (nI (w 38 (n * 6 + i)))), (0, .ref 55), (1, .int (nI (n * 6 + i))), (2, .int (nI x)), (3, .int (nI dp))]) ([.int (nI (lcw w x (w 38 (n * 6 + i))))]) (stt (nw u) τ) 0 0
    refine R_seg sg_50_66 sk_50_66 (pc' := 71) (lv' := [(6, .int (nI (lcw w x (w 38 (n * 6 + i))))), (5, .int (nI (w 20 (x / 32 * 4 + w 38 (n * 6 + i))))), (4, .int (nI (w 38 (n * 6 + i)))), (0, .ref 55), (1, .int (nI (n * 6 + i))), (2, .int (nI x)), (3, .int (nI dp))]) (st' := [.int 2, .int (nI (w 20 (x / 32 * 4 + w 38 (n * 6 + i))))]) (S' := stt (nw u) τ) (kc' := 0) (ks' := 0) rfl ⟨(by decide), trivial, trivial, trivial⟩ ?_
    refine R_icmp ck_50_71 (fun (c_71 : ¬ (nI (w 20 (x / 32 * 4 + w 38 (n * 6 + i)))) = 2) => ?_) (fun (c_71 : ¬ ¬ (nI (w 20 (x / 32 * 4 + w 38 (n * 6 + i)))) = 2) => ?_)
    · have c_71 : ¬ (w 20 (x / 32 * 4 + w 38 (n * 6 + i))) = 2 := fun zq => c_71 ((nI_eq (a := (w 20 (x / 32 * 4 + w 38 (n * 6 + i)))) (b := 2) (by omega) (by omega)).mpr zq)
      refine R_seg sg_50_83 sk_50_83 (pc' := 85) (lv' := [(6, .int (nI (lcw w x (w 38 (n * 6 + i))))), (5, .int (nI (w 20 (x / 32 * 4 + w 38 (n * 6 + i))))), (4, .int (nI (w 38 (n * 6 + i)))), (0, .ref 55), (1, .int (nI (n * 6 + i))), (2, .int (nI x)), (3, .int (nI dp))]) (st' := [.int (nI (lcw w x (w 38 (n * 6 + i))))]) (S' := stt (nw u) τ) (kc' := 0) (ks' := 0) rfl ⟨trivial, trivial⟩ ?_
      refine R_if ck_50_85 (fun (c_85 : ¬ (nI (lcw w x (w 38 (n * 6 + i)))) = 0) => ?_) (fun (c_85 : ¬ ¬ (nI (lcw w x (w 38 (n * 6 + i)))) = 0) => ?_)
      · have c_85 : ¬ (lcw w x (w 38 (n * 6 + i))) = 0 := fun zq => c_85 ((nI_eq (a := (lcw w x (w 38 (n * 6 + i)))) (b := 0) (by omega) (by omega)).mpr zq)
        skip
        refine R_seg sg_50_94 sk_50_94 (pc' := 100) (lv' := [(8, .int 0), (7, .int 1), (6, .int (nI (lcw w x (w 38 (n * 6 + i))))), (5, .int (nI (w 20 (x / 32 * 4 + w 38 (n * 6 + i))))), (4, .int (nI (w 38 (n * 6 + i)))), (0, .ref 55), (1, .int (nI (n * 6 + i))), (2, .int (nI x)), (3, .int (nI dp))]) (st' := []) (S' := stt (nw u) τ) (kc' := 0) (ks' := 0) rfl ⟨trivial, (by decide), trivial, (by decide), trivial⟩ ?_
        refine Runs.lv (lv := [(8, .int 0), (7, .int 1), (6, .int (nI (lcw w x (w 38 (n * 6 + i))))), (4, .int (nI (w 38 (n * 6 + i)))), (0, .ref 55), (1, .int (nI (n * 6 + i))), (2, .int (nI x)), (3, .int (nI dp))]) ?_ _ (lvS_l (show ([8, 7, 6, 4, 0, 1, 2, 3] : List Nat).Nodup from by decide) (by intro q hq; simp only [List.mem_cons, List.not_mem_nil, or_false] at hq; rcases hq with rfl | rfl | rfl | rfl | rfl | rfl | rfl | rfl <;> rfl))
        rw [← nI_0]
        exact l_50 hN hS hT hZ h51 hu ho hdp hi (by have := (wtc_ge hS hT ho hi c_33).1; omega) (by unfold tfd at hp; rw [if_neg c_33, if_neg c_71, if_neg c_85] at hp; exact hp) (lcw w x (w 38 (n * 6 + i)) + 1) 0 1 u (Nat.zero_le _) rfl (TLD.rf u) (by omega)
      · have c_85 : (lcw w x (w 38 (n * 6 + i))) = 0 := (nI_eq (a := (lcw w x (w 38 (n * 6 + i)))) (b := 0) (by omega) (by omega)).mp (Classical.not_not.mp c_85)
        have g1 := (wtc_ge hS hT ho hi c_33).2
        refine R_seg sg_50_88 sk_50_88 (pc' := 90) (lv' := [(6, .int (nI (lcw w x (w 38 (n * 6 + i))))), (5, .int (nI (w 20 (x / 32 * 4 + w 38 (n * 6 + i))))), (4, .int (nI (w 38 (n * 6 + i)))), (0, .ref 55), (1, .int (nI (n * 6 + i))), (2, .int (nI x)), (3, .int (nI dp))]) (st' := [.int 2, .ref 55]) (S' := stt (nw u) τ) (kc' := 0) (ks' := 0) rfl ⟨trivial, trivial, trivial⟩ ?_
        refine R_virt ck_50_90 55 [.int 2] 0 0 (r := []) rfl rfl rfl (Nat.le_of_ble_eq_true rfl) (Nat.le_refl _) (Nat.le_refl _) ?_
        refine c_48 (d := d + 2 * k + 1) (v := 2) (by omega) ?_
        show RU_50 (d + 2 * k + 3) (0, 0) Post 93 ([(6, .int (nI (lcw w x (w 38 (n * 6 + i))))), (5, .int (nI (w 20 (x / 32 * 4 + w 38 (n * 6 + i))))), (4, .int (nI (w 38 (n * 6 + i)))), (0, .ref 55), (1, .int (nI (n * 6 + i))), (2, .int (nI x)), (3, .int (nI dp))]) ([.int 0]) (stt (nw (aNull u 2)) τ) 0 0
        refine R_iret ck_50_93 rfl rfl ?_
        unfold tfd at hp
        rw [if_neg c_33, if_neg c_71, if_pos c_85] at hp
        exact hp _ (TLD.null u 2)
    · have c_71 : (w 20 (x / 32 * 4 + w 38 (n * 6 + i))) = 2 := (nI_eq (a := (w 20 (x / 32 * 4 + w 38 (n * 6 + i)))) (b := 2) (by omega) (by omega)).mp (Classical.not_not.mp c_71)
      refine R_seg sg_50_74 sk_50_74 (pc' := 77) (lv' := [(6, .int (nI (lcw w x (w 38 (n * 6 + i))))), (5, .int (nI (w 20 (x / 32 * 4 + w 38 (n * 6 + i))))), (4, .int (nI (w 38 (n * 6 + i)))), (0, .ref 55), (1, .int (nI (n * 6 + i))), (2, .int (nI x)), (3, .int (nI dp))]) (st' := [.int (nI (lcw w x (w 38 (n * 6 + i)))), .ref 55]) (S' := stt (nw u) τ) (kc' := 0) (ks' := 0) rfl ⟨trivial, trivial, trivial⟩ ?_
      refine R_virt ck_50_77 55 [.int (nI (lcw w x (w 38 (n * 6 + i))))] 0 0 (r := []) rfl rfl rfl (Nat.le_of_ble_eq_true rfl) (Nat.le_refl _) (Nat.le_refl _) ?_
      refine c_49 (d := d + 2 * k + 2) (w := u) (by omega) ?_
      show RU_50 (d + 2 * k + 3) (0, 0) Post 80 ([(6, .int (nI (lcw w x (w 38 (n * 6 + i))))), (5, .int (nI (w 20 (x / 32 * 4 + w 38 (n * 6 + i))))), (4, .int (nI (w 38 (n * 6 + i)))), (0, .ref 55), (1, .int (nI (n * 6 + i))), (2, .int (nI x)), (3, .int (nI dp))]) ([]) (stt (nw (up2 (up2 u 56 (u 55 1) (lcw w x (w 38 (n * 6 + i)))) 55 1 (u 55 1 + 1))) τ) 0 0
      refine R_goto ck_50_80 ?_
      refine R_seg sg_50_94 sk_50_94 (pc' := 100) (lv' := [(8, .int 0), (7, .int 1), (6, .int (nI (lcw w x (w 38 (n * 6 + i))))), (5, .int (nI (w 20 (x / 32 * 4 + w 38 (n * 6 + i))))), (4, .int (nI (w 38 (n * 6 + i)))), (0, .ref 55), (1, .int (nI (n * 6 + i))), (2, .int (nI x)), (3, .int (nI dp))]) (st' := []) (S' := stt (nw (up2 (up2 u 56 (u 55 1) (lcw w x (w 38 (n * 6 + i)))) 55 1 (u 55 1 + 1))) τ) (kc' := 0) (ks' := 0) rfl ⟨trivial, (by decide), trivial, (by decide), trivial⟩ ?_
      refine Runs.lv (lv := [(8, .int 0), (7, .int 1), (6, .int (nI (lcw w x (w 38 (n * 6 + i))))), (4, .int (nI (w 38 (n * 6 + i)))), (0, .ref 55), (1, .int (nI (n * 6 + i))), (2, .int (nI x)), (3, .int (nI dp))]) ?_ _ (lvS_l (show ([8, 7, 6, 4, 0, 1, 2, 3] : List Nat).Nodup from by decide) (by intro q hq; simp only [List.mem_cons, List.not_mem_nil, or_false] at hq; rcases hq with rfl | rfl | rfl | rfl | rfl | rfl | rfl | rfl <;> rfl))
      rw [← nI_0]
      have hq := (TLD.rf u).put (lcw w x (w 38 (n * 6 + i)))
      exact l_50 (u := up2 (up2 u 56 (u 55 1) (lcw w x (w 38 (n * 6 + i)))) 55 1 (u 55 1 + 1)) hN hS hT hZ h51 (fun k k1 k2 => (hq.1 k k1 k2).trans (hu k k1 k2)) ho hdp hi (by have := (wtc_ge hS hT ho hi c_33).1; show u 55 1 + 1 + _ ≤ _; omega) (fun t ht => by unfold tfd at hp; rw [if_neg c_33, if_pos c_71] at hp; exact hp t (hq.tr ht)) (lcw w x (w 38 (n * 6 + i)) + 1) 0 1 _ (Nat.zero_le _) rfl (TLD.rf _) (by omega)
  · have c_33 : (w 20 (x / 32 * 4 + w 38 (n * 6 + i))) = 0 := (nI_eq (a := (w 20 (x / 32 * 4 + w 38 (n * 6 + i)))) (b := 0) (by omega) (by omega)).mp (Classical.not_not.mp c_33)
    refine R_seg sg_50_36 sk_50_36 (pc' := 50) (lv' := [(5, .int (nI (w 20 (x / 32 * 4 + w 38 (n * 6 + i))))), (4, .int (nI (w 38 (n * 6 + i)))), (0, .ref 55), (1, .int (nI (n * 6 + i))), (2, .int (nI x)), (3, .int (nI dp))]) (st' := [.int (((nI x) * 4) + (nI (w 38 (n * 6 + i)))), .ref 26, .ref 55]) (S' := stt (nw u) τ) (kc' := 0) (ks' := 0) rfl ⟨trivial, trivial, rfl, rfl, trivial, trivial, trivial, trivial, trivial, trivial⟩ ?_
    refine R_iald ca_50_50 (j := x * 4 + w 38 (n * 6 + i)) rfl (by first | (simp only [nl_0, nl_1, nl_2, nl_3, nl_4, nl_5, nl_6, nl_8, nl_20, nl_31, nl_32, pk_mul, nI_add]; done) | (simp only [nl_0, nl_1, nl_2, nl_3, nl_4, nl_5, nl_6, nl_8, nl_20, nl_31, nl_32, pk_mul, nI_add]; congr 1; omega)) (by omega) ?_
    show RU_50 (d + 2 * k + 3) (0, 0) Post 51 ([(5, .int (nI (w 20 (x / 32 * 4 + w 38 (n * 6 + i))))), (4, .int (nI (w 38 (n * 6 + i)))), (0, .ref 55), (1, .int (nI (n * 6 + i))), (2, .int (nI x)), (3, .int (nI dp))]) ([.int (nI (u 26 (x * 4 + w 38 (n * 6 + i)))), .ref 55]) (stt (nw u) τ) 0 0
    rw [e26]
    refine R_virt ck_50_51 55 [.int (nI (w 26 (x * 4 + w 38 (n * 6 + i))))] 0 0 (r := []) rfl rfl rfl (Nat.le_of_ble_eq_true rfl) (Nat.le_refl _) (Nat.le_refl _) ?_
    refine c_49 (d := d + 2 * k + 2) (w := u) (by omega) ?_
    show RU_50 (d + 2 * k + 3) (0, 0) Post 54 ([(5, .int (nI (w 20 (x / 32 * 4 + w 38 (n * 6 + i))))), (4, .int (nI (w 38 (n * 6 + i)))), (0, .ref 55), (1, .int (nI (n * 6 + i))), (2, .int (nI x)), (3, .int (nI dp))]) ([]) (stt (nw (up2 (up2 u 56 (u 55 1) (w 26 (x * 4 + w 38 (n * 6 + i)))) 55 1 (u 55 1 + 1))) τ) 0 0
    refine R_seg sg_50_54 sk_50_54 (pc' := 55) (lv' := [(5, .int (nI (w 20 (x / 32 * 4 + w 38 (n * 6 + i))))), (4, .int (nI (w 38 (n * 6 + i)))), (0, .ref 55), (1, .int (nI (n * 6 + i))), (2, .int (nI x)), (3, .int (nI dp))]) (st' := [.int 1]) (S' := stt (nw (up2 (up2 u 56 (u 55 1) (w 26 (x * 4 + w 38 (n * 6 + i)))) 55 1 (u 55 1 + 1))) τ) (kc' := 0) (ks' := 0) rfl ⟨trivial, trivial⟩ ?_
    refine R_iret ck_50_55 rfl rfl ?_
    unfold tfd at hp
    rw [if_pos c_33] at hp
    exact hp _ ((TLD.rf u).put _)
set_option maxRecDepth 20000 in
theorem l_47 {d k n x dp : Nat} {w u : WW} {τ : Nat → Nat → Int64} {Post : Option Value → Sto → Prop} (hF : FldS d k) (hS : SO w) (hT : TO w) (hZ : ZO w) (h51 : ∀ x, x < 192 → w 51 x ≤ 12) (hu : ∀ k, k ≠ 55 → k ≠ 56 → u k = w k) (ho : OKn w (k + 1) n x) (hdp : dp + (k + 1) = 6) (hrm : u 55 1 + 7 * Wt w (k + 1) n ≤ 3500) (hk10 : w 51 x = 10) (hp : ∀ t, TLD u (TT w (k + 1) n x).1 (TT w (k + 1) n x).2.2 t → Post (some (.int (nI (bn (TT w (k + 1) n x).2.1)))) (stt (nw t) τ)) : ∀ (nn : Nat) (i : Nat) (t : WW), i ≤ w 37 n → (∀ j, j < i → ¬ bad w (TT w k) n x j) → TLD u (tfs w (TT w k) n x i).1 (tfs w (TT w k) n x i).2 t → w 37 n - i < nn → RU_47 (d + 2 * k + 4) (0, 0) Post 46 [(5, .int (nI i)), (4, .int (nI (u 55 1))), (0, .ref 55), (1, .int (nI n)), (2, .int (nI x)), (3, .int (nI dp))] [] (stt (nw t) τ) 0 0 := by
  intro nn
  induction nn with
  | zero => intro i t hi hno ht hms; exact absurd hms (by omega)
  | succ nn ih =>
    intro i t hi hno ht hms
    have hx := ho.2.1
    have t0 := hT.2 n ho.1
    have hn1 := ho.1
    have hT1 := hT.1
    have t01 := t0.1
    have et : ∀ k, k ≠ 55 → k ≠ 56 → t k = w k := fun k k1 k2 => (ht.1 k k1 k2).trans (hu k k1 k2)
    have e37 := et 37 (by decide) (by decide)
    have hL := TT_len hS hT k
    have hW := Wt_pos hT ho
    refine R_seg sg_47_46 sk_47_46 (pc' := 56) (lv' := [(5, .int (nI i)), (4, .int (nI (u 55 1))), (0, .ref 55), (1, .int (nI n)), (2, .int (nI x)), (3, .int (nI dp))]) (st' := [.int (nI n), .ref 37, .int (nI i)]) (S' := stt (nw t) τ) (kc' := 0) (ks' := 0) rfl ⟨trivial, trivial, rfl, rfl, trivial, trivial⟩ ?_
    refine R_iald ca_47_56 (j := n) rfl rfl (by omega) ?_
    show RU_47 (d + 2 * k + 4) (0, 0) Post 57 ([(5, .int (nI i)), (4, .int (nI (u 55 1))), (0, .ref 55), (1, .int (nI n)), (2, .int (nI x)), (3, .int (nI dp))]) ([.int (nI (t 37 n)), .int (nI i)]) (stt (nw t) τ) 0 0
    rw [e37]
    refine R_icmp ck_47_57 (fun (c_57 : (nI (w 37 n)) ≤ (nI i)) => ?_) (fun (c_57 : ¬ (nI (w 37 n)) ≤ (nI i)) => ?_)
    · have c_57 : (w 37 n) ≤ i := (nI_leI (a := (w 37 n)) (b := i) (by omega) (by omega)).mp c_57
      refine R_seg sg_47_132 sk_47_132 (pc' := 133) (lv' := [(5, .int (nI i)), (4, .int (nI (u 55 1))), (0, .ref 55), (1, .int (nI n)), (2, .int (nI x)), (3, .int (nI dp))]) (st' := [.int 1]) (S' := stt (nw t) τ) (kc' := 0) (ks' := 0) rfl ⟨trivial, trivial⟩ ?_
      refine R_iret ck_47_133 rfl rfl ?_
      have ei : i = w 37 n := by omega
      subst ei
      rw [TT_s, if_pos hk10, if_neg (fun ⟨j, j1, j2⟩ => hno j j1 j2)] at hp
      exact hp t ht
    · have c_57 : i < (w 37 n) := Nat.not_le.mp (fun zq => c_57 ((nI_leI (a := (w 37 n)) (b := i) (by omega) (by omega)).mpr zq))
      have h38 : w 38 (n * 6 + i) < 4 := (t0.2 i c_57).1
      have b23 := hZ.2 (x / 32 * 4 + w 38 (n * 6 + i)) (by omega)
      have hroom : t 55 1 + (1 + 7 * wtc w (Wt w k) n i) ≤ 3500 := by
        have l1 := tfs_len hS hT hL ho i (by omega)
        have l2 := ht.2.2.1
        have l3 := wtf_room (rc := Wt w k) c_57 t01.2.2.1
        rw [Wt_s] at hrm
        omega
      refine R_seg [(.iload_n 1, 1, 0, 0, 0, 0), (.bipush 6, 2, 0, 0, 0, 6), (.imul, 1, 0, 0, 0, 0), (.iload 5, 2, 0, 0, 0, 0), (.iadd, 1, 0, 0, 0, 0)] (by decide +kernel) (pc' := 67) (lv' := [(5, .int (nI i)), (4, .int (nI (u 55 1))), (0, .ref 55), (1, .int (nI n)), (2, .int (nI x)), (3, .int (nI dp))]) (st' := [.int (((nI n) * 6) + (nI i))]) (S' := stt (nw t) τ) (kc' := 0) (ks' := 0) rfl ⟨trivial, trivial, trivial, trivial, trivial, trivial⟩ ?_
      rw [show nI n * 6 + nI i = nI (n * 6 + i) from by simp only [nl_0, nl_1, nl_2, nl_3, nl_4, nl_5, nl_6, nl_8, nl_20, nl_31, nl_32, pk_mul, nI_add]]
      skip
      refine R_seg [(.istore 6, 2, 0, 0, 0, 0), (.aload_n 0, 1, 0, 0, 0, 0), (.iload 6, 2, 0, 0, 0, 0), (.iload_n 2, 1, 0, 0, 0, 0), (.iload_n 3, 1, 0, 0, 0, 0)] (by decide +kernel) (pc' := 74) (lv' := [(6, .int (nI (n * 6 + i))), (5, .int (nI i)), (4, .int (nI (u 55 1))), (0, .ref 55), (1, .int (nI n)), (2, .int (nI x)), (3, .int (nI dp))]) (st' := [.int (nI dp), .int (nI x), .int (nI (n * 6 + i)), .ref 55]) (S' := stt (nw t) τ) (kc' := 0) (ks' := 0) rfl ⟨(by decide), trivial, trivial, trivial, trivial, trivial⟩ ?_
      refine R_virt ck_47_74 55 [.int (nI (n * 6 + i)), .int (nI x), .int (nI dp)] 0 0 (r := []) rfl rfl rfl (Nat.le_of_ble_eq_true rfl) (Nat.le_refl _) (Nat.le_refl _) ?_
      refine hF n x dp i w t τ _ hS hT hZ h51 et ho (by omega) c_57 hroom (fun t2 hT2 => ?_)
      have hTT := ht.tr hT2
      have et2 : ∀ k, k ≠ 55 → k ≠ 56 → t2 k = w k := fun k k1 k2 => (hTT.1 k k1 k2).trans (hu k k1 k2)
      have e38 := et2 38 (by decide) (by decide)
      have e23 := et2 23 (by decide) (by decide)
      rcases hb : (tfd w (TT w k) n x i).2.1 with _ | _
      · rw [bn_f]
        show RU_47 (d + 2 * k + 4) (0, 0) Post 77 ([(6, .int (nI (n * 6 + i))), (5, .int (nI i)), (4, .int (nI (u 55 1))), (0, .ref 55), (1, .int (nI n)), (2, .int (nI x)), (3, .int (nI dp))]) ([.int 0]) (stt (nw t2) τ) 0 0
        refine R_seg sg_47_77 sk_47_77 (pc' := 81) (lv' := [(7, .int 0), (6, .int (nI (n * 6 + i))), (5, .int (nI i)), (4, .int (nI (u 55 1))), (0, .ref 55), (1, .int (nI n)), (2, .int (nI x)), (3, .int (nI dp))]) (st' := [.int 0]) (S' := stt (nw t2) τ) (kc' := 0) (ks' := 0) rfl ⟨(by decide), trivial, trivial⟩ ?_
        refine R_if ck_47_81 (fun c => absurd c (show ¬ ¬ (0 : Int32) = 0 from by decide)) (fun _ => ?_)
        refine R_seg sg_47_84 sk_47_84 (pc' := 105) (lv' := [(7, .int 0), (6, .int (nI (n * 6 + i))), (5, .int (nI i)), (4, .int (nI (u 55 1))), (0, .ref 55), (1, .int (nI n)), (2, .int (nI x)), (3, .int (nI dp))]) (st' := [.int (nI (n * 6 + i)), .ref 38, .int (nI x), .ref 16, .ref 23]) (S' := stt (nw t2) τ) (kc' := 0) (ks' := 0) rfl ⟨trivial, rfl, rfl, trivial, rfl, trivial, trivial, rfl, rfl, trivial, trivial⟩ ?_
        refine R_iald ca_47_105 (j := n * 6 + i) rfl rfl (by omega) ?_
        show RU_47 (d + 2 * k + 4) (0, 0) Post 106 ([(7, .int 0), (6, .int (nI (n * 6 + i))), (5, .int (nI i)), (4, .int (nI (u 55 1))), (0, .ref 55), (1, .int (nI n)), (2, .int (nI x)), (3, .int (nI dp))]) ([.int (nI (t2 38 (n * 6 + i))), .int (nI x), .ref 16, .ref 23]) (stt (nw t2) τ) 0 0
        rw [e38]
        refine R_virt ck_47_106 16 [.int (nI x), .int (nI (w 38 (n * 6 + i)))] 0 0 (r := [.ref 23]) rfl rfl rfl (Nat.le_of_ble_eq_true rfl) (Nat.le_refl _) (Nat.le_refl _) ?_
        refine x_40 (d := d + 2 * k + 3) hx h38 ?_
        show RU_47 (d + 2 * k + 4) (0, 0) Post 109 ([(7, .int 0), (6, .int (nI (n * 6 + i))), (5, .int (nI i)), (4, .int (nI (u 55 1))), (0, .ref 55), (1, .int (nI n)), (2, .int (nI x)), (3, .int (nI dp))]) ([.int (nI (x / 32 * 4 + w 38 (n * 6 + i))), .ref 23]) (stt (nw t2) τ) 0 0
        refine R_bald ca_47_109 (j := x / 32 * 4 + w 38 (n * 6 + i)) rfl rfl (by omega) ?_
        show RU_47 (d + 2 * k + 4) (0, 0) Post 110 ([(7, .int 0), (6, .int (nI (n * 6 + i))), (5, .int (nI i)), (4, .int (nI (u 55 1))), (0, .ref 55), (1, .int (nI n)), (2, .int (nI x)), (3, .int (nI dp))]) ([.int (nI (t2 23 (x / 32 * 4 + w 38 (n * 6 + i))))]) (stt (nw t2) τ) 0 0
        rw [e23]
        refine R_if ck_47_110 (fun (c_110 : (nI (w 23 (x / 32 * 4 + w 38 (n * 6 + i)))) = 0) => ?_) (fun (c_110 : ¬ (nI (w 23 (x / 32 * 4 + w 38 (n * 6 + i)))) = 0) => ?_)
        · have c_110 : (w 23 (x / 32 * 4 + w 38 (n * 6 + i))) = 0 := (nI_eq (a := (w 23 (x / 32 * 4 + w 38 (n * 6 + i)))) (b := 0) (by omega) (by omega)).mp c_110
          refine R_seg sg_47_126 sk_47_126 (pc' := 129) (lv' := [(5, .int ((nI i) + 1)), (7, .int 0), (6, .int (nI (n * 6 + i))), (4, .int (nI (u 55 1))), (0, .ref 55), (1, .int (nI n)), (2, .int (nI x)), (3, .int (nI dp))]) (st' := []) (S' := stt (nw t2) τ) (kc' := 0) (ks' := 0) rfl ⟨(by decide), trivial⟩ ?_
          refine R_goto ck_47_129 ?_
          refine Runs.lv (lv := [(5, .int ((nI i) + 1)), (4, .int (nI (u 55 1))), (0, .ref 55), (1, .int (nI n)), (2, .int (nI x)), (3, .int (nI dp))]) ?_ _ (lvS_l (show ([5, 4, 0, 1, 2, 3] : List Nat).Nodup from by decide) (by intro q hq; simp only [List.mem_cons, List.not_mem_nil, or_false] at hq; rcases hq with rfl | rfl | rfl | rfl | rfl | rfl <;> rfl))
          rw [nI_1 i]
          exact ih (i + 1) t2 (by omega) (fun j hj => by rcases Nat.lt_or_ge j i with z | z; exact hno j z; rw [show j = i by omega]; intro y; exact y.2 c_110) hTT (by omega)
        · have c_110 : ¬ (w 23 (x / 32 * 4 + w 38 (n * 6 + i))) = 0 := fun zq => c_110 ((nI_eq (a := (w 23 (x / 32 * 4 + w 38 (n * 6 + i)))) (b := 0) (by omega) (by omega)).mpr zq)
          refine R_seg sg_47_113 sk_47_113 (pc' := 122) (lv' := [(7, .int 0), (6, .int (nI (n * 6 + i))), (5, .int (nI i)), (4, .int (nI (u 55 1))), (0, .ref 55), (1, .int (nI n)), (2, .int (nI x)), (3, .int (nI dp))]) (st' := [.int 6, .ref 55]) (S' := stt (up2 (nw t2) 55 1 (nI (u 55 1))) τ) (kc' := 0) (ks' := 0) rfl ⟨trivial, trivial, ⟨rfl, ⟨rfl, rfl⟩⟩, trivial, trivial, trivial⟩ ?_
          show RU_47 (d + 2 * k + 4) (0, 0) Post 122 ([(7, .int 0), (6, .int (nI (n * 6 + i))), (5, .int (nI i)), (4, .int (nI (u 55 1))), (0, .ref 55), (1, .int (nI n)), (2, .int (nI x)), (3, .int (nI dp))]) ([.int 6, .ref 55]) (stt (up2 (nw t2) 55 1 (nI (u 55 1))) τ) 0 0
          rw [nw_up (w := t2) (k := 55) (i := 1) (v := nI (u 55 1)) (n := u 55 1) rfl]
          refine R_virt ck_47_122 55 [.int 6] 0 0 (r := []) rfl rfl rfl (Nat.le_of_ble_eq_true rfl) (Nat.le_refl _) (Nat.le_refl _) ?_
          refine c_48 (d := d + 2 * k + 2) (w := up2 t2 55 1 (u 55 1)) (v := 6) (show u 55 1 + 1 < 3500 by omega) ?_
          show RU_47 (d + 2 * k + 4) (0, 0) Post 125 ([(7, .int 0), (6, .int (nI (n * 6 + i))), (5, .int (nI i)), (4, .int (nI (u 55 1))), (0, .ref 55), (1, .int (nI n)), (2, .int (nI x)), (3, .int (nI dp))]) ([.int 0]) (stt (nw (aNull (up2 t2 55 1 (u 55 1)) 6)) τ) 0 0
          refine R_iret ck_47_125 rfl rfl ?_
          rw [TT_s, if_pos hk10, if_pos ⟨i, c_57, hb, c_110⟩] at hp
          exact hp _ (hTT.back 6)
      · rw [bn_t]
        show RU_47 (d + 2 * k + 4) (0, 0) Post 77 ([(6, .int (nI (n * 6 + i))), (5, .int (nI i)), (4, .int (nI (u 55 1))), (0, .ref 55), (1, .int (nI n)), (2, .int (nI x)), (3, .int (nI dp))]) ([.int 1]) (stt (nw t2) τ) 0 0
        refine R_seg sg_47_77 sk_47_77 (pc' := 81) (lv' := [(7, .int 1), (6, .int (nI (n * 6 + i))), (5, .int (nI i)), (4, .int (nI (u 55 1))), (0, .ref 55), (1, .int (nI n)), (2, .int (nI x)), (3, .int (nI dp))]) (st' := [.int 1]) (S' := stt (nw t2) τ) (kc' := 0) (ks' := 0) rfl ⟨(by decide), trivial, trivial⟩ ?_
        refine R_if ck_47_81 (fun _ => ?_) (fun c => absurd (show ¬ (1 : Int32) = 0 from by decide) c)
        refine R_seg sg_47_126 sk_47_126 (pc' := 129) (lv' := [(5, .int ((nI i) + 1)), (7, .int 1), (6, .int (nI (n * 6 + i))), (4, .int (nI (u 55 1))), (0, .ref 55), (1, .int (nI n)), (2, .int (nI x)), (3, .int (nI dp))]) (st' := []) (S' := stt (nw t2) τ) (kc' := 0) (ks' := 0) rfl ⟨(by decide), trivial⟩ ?_
        refine R_goto ck_47_129 ?_
        refine Runs.lv (lv := [(5, .int ((nI i) + 1)), (4, .int (nI (u 55 1))), (0, .ref 55), (1, .int (nI n)), (2, .int (nI x)), (3, .int (nI dp))]) ?_ _ (lvS_l (show ([5, 4, 0, 1, 2, 3] : List Nat).Nodup from by decide) (by intro q hq; simp only [List.mem_cons, List.not_mem_nil, or_false] at hq; rcases hq with rfl | rfl | rfl | rfl | rfl | rfl <;> rfl))
        rw [nI_1 i]
        exact ih (i + 1) t2 (by omega) (fun j hj => by rcases Nat.lt_or_ge j i with z | z; exact hno j z; rw [show j = i by omega]; intro y; (have y1 : (tfd w (TT w k) n x i).2.1 = false := y.1; rw [hb] at y1; exact absurd y1 (by decide))) hTT (by omega)
set_option maxRecDepth 20000 in
theorem c_47 {d k : Nat} (hF : FldS d k) : TelS d (k + 1) := by
  intro n x dp w u τ Post hS hT hZ h51 hu ho hdp hrm hp
  have hx := ho.2.1
  have hW := Wt_pos hT ho
  have b51 := h51 x hx
  have e51 := hu 51 (by decide) (by decide)
  have hn1 := ho.1
  have hT1 := hT.1
  refine en_47 (Nat.le_of_ble_eq_true rfl) ?_
  show RU_47 (d + 2 * k + 4) (0, 0) Post 0 ([(0, .ref 55), (1, .int (nI n)), (2, .int (nI x)), (3, .int (nI dp))]) ([]) (stt (nw u) τ) 0 0
  refine R_seg sg_47_0 sk_47_0 (pc' := 5) (lv' := [(0, .ref 55), (1, .int (nI n)), (2, .int (nI x)), (3, .int (nI dp))]) (st' := [.int (nI x), .ref 51]) (S' := stt (nw u) τ) (kc' := 0) (ks' := 0) rfl ⟨trivial, rfl, trivial, trivial⟩ ?_
  refine R_iald ca_47_5 (j := x) rfl rfl (by omega) ?_
  show RU_47 (d + 2 * k + 4) (0, 0) Post 6 ([(0, .ref 55), (1, .int (nI n)), (2, .int (nI x)), (3, .int (nI dp))]) ([.int (nI (u 51 x))]) (stt (nw u) τ) 0 0
  rw [e51]
  refine R_seg sg_47_6 sk_47_6 (pc' := 8) (lv' := [(0, .ref 55), (1, .int (nI n)), (2, .int (nI x)), (3, .int (nI dp))]) (st' := [.int 10, .int (nI (w 51 x))]) (S' := stt (nw u) τ) (kc' := 0) (ks' := 0) rfl ⟨trivial, trivial⟩ ?_
  refine R_icmp ck_47_8 (fun (c_8 : ¬ (nI (w 51 x)) = 10) => ?_) (fun (c_8 : ¬ ¬ (nI (w 51 x)) = 10) => ?_)
  · have c_8 : ¬ (w 51 x) = 10 := fun zq => c_8 ((nI_eq (a := (w 51 x)) (b := 10) (by omega) (by omega)).mpr zq)
    refine R_seg sg_47_21 sk_47_21 (pc' := 27) (lv' := [(0, .ref 55), (1, .int (nI n)), (2, .int (nI x)), (3, .int (nI dp))]) (st' := [.int (nI x), .ref 51, .ref 55]) (S' := stt (nw u) τ) (kc' := 0) (ks' := 0) rfl ⟨trivial, trivial, rfl, trivial, trivial⟩ ?_
    refine R_iald ca_47_27 (j := x) rfl rfl (by omega) ?_
    show RU_47 (d + 2 * k + 4) (0, 0) Post 28 ([(0, .ref 55), (1, .int (nI n)), (2, .int (nI x)), (3, .int (nI dp))]) ([.int (nI (u 51 x)), .ref 55]) (stt (nw u) τ) 0 0
    rw [e51]
    refine R_virt ck_47_28 55 [.int (nI (w 51 x))] 0 0 (r := []) rfl rfl rfl (Nat.le_of_ble_eq_true rfl) (Nat.le_refl _) (Nat.le_refl _) ?_
    refine c_48 (d := d + 2 * k + 2) (v := w 51 x) (by omega) ?_
    show RU_47 (d + 2 * k + 4) (0, 0) Post 31 ([(0, .ref 55), (1, .int (nI n)), (2, .int (nI x)), (3, .int (nI dp))]) ([.int 0]) (stt (nw (aNull u (w 51 x))) τ) 0 0
    refine R_iret ck_47_31 rfl rfl ?_
    rw [TT_s, if_neg c_8] at hp
    exact hp _ (TLD.null u _)
  · have c_8 : (w 51 x) = 10 := (nI_eq (a := (w 51 x)) (b := 10) (by omega) (by omega)).mp (Classical.not_not.mp c_8)
    refine R_seg sg_47_11 sk_47_11 (pc' := 13) (lv' := [(0, .ref 55), (1, .int (nI n)), (2, .int (nI x)), (3, .int (nI dp))]) (st' := [.int 5, .int (nI dp)]) (S' := stt (nw u) τ) (kc' := 0) (ks' := 0) rfl ⟨trivial, trivial, trivial⟩ ?_
    refine R_icmp ck_47_13 (fun (c_13 : 5 < (nI dp)) => ?_) (fun (c_13 : ¬ 5 < (nI dp)) => ?_)
    · have c_13 : 5 < dp := (nI_ltI (a := 5) (b := dp) (by omega) (by omega)).mp c_13
      omega
    · have c_13 : dp ≤ 5 := Nat.not_lt.mp (fun zq => c_13 ((nI_ltI (a := 5) (b := dp) (by omega) (by omega)).mpr zq))
      refine R_seg sg_47_16 sk_47_16 (pc' := 18) (lv' := [(0, .ref 55), (1, .int (nI n)), (2, .int (nI x)), (3, .int (nI dp))]) (st' := [.int (-1), .int (nI n)]) (S' := stt (nw u) τ) (kc' := 0) (ks' := 0) rfl ⟨trivial, trivial, trivial⟩ ?_
      refine R_icmp ck_47_18 (fun (c_18 : ¬ (nI n) = (-1)) => ?_) (fun (c_18 : ¬ ¬ (nI n) = (-1)) => ?_)
      · refine R_seg sg_47_32 sk_47_32 (pc' := 40) (lv' := [(4, .int (nI (u 55 1))), (0, .ref 55), (1, .int (nI n)), (2, .int (nI x)), (3, .int (nI dp))]) (st' := [.int 1, .ref 55]) (S' := stt (nw u) τ) (kc' := 0) (ks' := 0) rfl ⟨trivial, rfl, (by decide), trivial, trivial, trivial⟩ ?_
        refine R_virt ck_47_40 55 [.int 1] 0 0 (r := []) rfl rfl rfl (Nat.le_of_ble_eq_true rfl) (Nat.le_refl _) (Nat.le_refl _) ?_
        refine c_49 (d := d + 2 * k + 3) (w := u) (v := 1) (by omega) ?_
        show RU_47 (d + 2 * k + 4) (0, 0) Post 43 ([(4, .int (nI (u 55 1))), (0, .ref 55), (1, .int (nI n)), (2, .int (nI x)), (3, .int (nI dp))]) ([]) (stt (nw (up2 (up2 u 56 (u 55 1) 1) 55 1 (u 55 1 + 1))) τ) 0 0
        refine R_seg sg_47_43 sk_47_43 (pc' := 46) (lv' := [(5, .int 0), (4, .int (nI (u 55 1))), (0, .ref 55), (1, .int (nI n)), (2, .int (nI x)), (3, .int (nI dp))]) (st' := []) (S' := stt (nw (up2 (up2 u 56 (u 55 1) 1) 55 1 (u 55 1 + 1))) τ) (kc' := 0) (ks' := 0) rfl ⟨trivial, (by decide), trivial⟩ ?_
        refine Runs.lv (lv := [(5, .int 0), (4, .int (nI (u 55 1))), (0, .ref 55), (1, .int (nI n)), (2, .int (nI x)), (3, .int (nI dp))]) ?_ _ (lvS_l (show ([5, 4, 0, 1, 2, 3] : List Nat).Nodup from by decide) (by intro q hq; simp only [List.mem_cons, List.not_mem_nil, or_false] at hq; rcases hq with rfl | rfl | rfl | rfl | rfl | rfl <;> rfl))
        rw [← nI_0]
        exact l_47 hF hS hT hZ h51 hu ho hdp hrm c_8 hp (w 37 n + 1) 0 _ (Nat.zero_le _) (fun j hj => absurd hj (Nat.not_lt_zero j)) ((TLD.rf u).put 1) (by omega)
      · exact absurd (Classical.not_not.mp c_18) (nI_m1 (by omega))
theorem c_tell (d : Nat) : ∀ k, TelS d k
  | 0 => by
    intro n x dp w u τ Post hS hT hZ h51 hu ho
    have h1 := (hT.2 n ho.1).1
    have h2 := ho.2.2.2
    omega
  | k + 1 => c_47 (c_50 (c_tell d k))
/-- the whole told -/
def TOLD (w : WW) (l : List Nat) (h : Bool) (u : WW) : Prop := (∀ k, k ≠ 55 → k ≠ 56 → u k = w k) ∧ u 55 1 = l.length ∧ u 55 5 = bn h ∧ ∀ i, i < l.length → u 56 i = l.getD i 0
set_option maxRecDepth 20000 in
theorem c_46 {d x : Nat} {w : WW} {τ : Nat → Nat → Int64} {Post : Option Value → Sto → Prop} (hS : SO w) (hT : TO w) (hZ : ZO w) (h51 : ∀ x, x < 192 → w 51 x ≤ 12) (ho : OKn w 5 0 x) (hW : 7 * Wt w 5 0 ≤ 3500) (hp : ∀ t, TOLD w (TT w 5 0 x).1 (TT w 5 0 x).2.2 t → Post (some (.int (nI (bn (TT w 5 0 x).2.2)))) (stt (nw t) τ)) : Ex (d + 14) 46 [.ref 55, .int (nI x)] (stt (nw w) τ) 0 0 Post := by
  refine en_46 (Nat.le_of_ble_eq_true rfl) ?_
  show RU_46 (d + 13) (0, 0) Post 0 ([(0, .ref 55), (1, .int (nI x))]) ([]) (stt (nw w) τ) 0 0
  refine R_seg [(.aload_n 0, 1, 0, 0, 0, 0), (.iconst 0, 1, 0, 0, 0, 0), (.putfield 26, 3, 8, 1, 0, 0), (.aload_n 0, 1, 0, 0, 0, 0), (.iconst 0, 1, 0, 0, 0, 0), (.putfield 30, 3, 8, 5, 0, 0)] (by decide +kernel) (pc' := 10) (lv' := [(0, .ref 55), (1, .int (nI x))]) (st' := []) (S' := stt (up2 (up2 (nw w) 55 1 0) 55 5 0) τ) (kc' := 0) (ks' := 0) rfl ⟨trivial, trivial, ⟨rfl, ⟨rfl, rfl⟩⟩, trivial, trivial, ⟨rfl, ⟨rfl, rfl⟩⟩, trivial⟩ ?_
  show RU_46 (d + 13) (0, 0) Post 10 ([(0, .ref 55), (1, .int (nI x))]) ([]) (stt (up2 (up2 (nw w) 55 1 0) 55 5 0) τ) 0 0
  rw [nw_up (w := w) (k := 55) (i := 1) (v := 0) (n := 0) rfl]
  rw [nw_up (w := up2 w 55 1 0) (k := 55) (i := 5) (v := 0) (n := 0) rfl]
  skip
  refine R_seg [(.aload_n 0, 1, 0, 0, 0, 0), (.iconst 0, 1, 0, 0, 0, 0), (.iload_n 1, 1, 0, 0, 0, 0), (.iconst 1, 1, 0, 0, 0, 1)] (by decide +kernel) (pc' := 14) (lv' := [(0, .ref 55), (1, .int (nI x))]) (st' := [.int 1, .int (nI x), .int 0, .ref 55]) (S' := stt (nw (up2 (up2 w 55 1 0) 55 5 0)) τ) (kc' := 0) (ks' := 0) rfl ⟨trivial, trivial, trivial, trivial, trivial⟩ ?_
  refine R_virt ck_46_14 55 [.int 0, .int (nI x), .int 1] 0 0 (r := []) rfl rfl rfl (Nat.le_of_ble_eq_true rfl) (Nat.le_refl _) (Nat.le_refl _) ?_
  refine c_tell d 5 0 x 1 w (up2 (up2 w 55 1 0) 55 5 0) τ _ hS hT hZ h51 (fun k k1 _ => by rw [up2_k _ _ _ _ k1, up2_k _ _ _ _ k1]) ho rfl (show 0 + 7 * Wt w 5 0 ≤ 3500 by omega) (fun t ht => ?_)
  have hT5 : TOLD w (TT w 5 0 x).1 (TT w 5 0 x).2.2 t := ⟨fun k k1 k2 => by rw [ht.1 k k1 k2, up2_k _ _ _ _ k1, up2_k _ _ _ _ k1], by rw [ht.2.2.1]; exact Nat.zero_add _, by rw [ht.2.2.2.1]; rfl, fun i hi => by have := ht.2.2.2.2.2 i hi; rw [show (up2 (up2 w 55 1 0) 55 5 0) 55 1 + i = i from Nat.zero_add i] at this; exact this⟩
  show RU_46 (d + 13) (0, 0) Post 17 ([(0, .ref 55), (1, .int (nI x))]) ([.int (nI (bn (TT w 5 0 x).2.1))]) (stt (nw t) τ) 0 0
  refine R_seg sg_46_17 sk_46_17 (pc' := 22) (lv' := [(0, .ref 55), (1, .int (nI x))]) (st' := [.int (nI (t 55 5))]) (S' := stt (nw t) τ) (kc' := 0) (ks' := 0) rfl ⟨rfl, trivial, rfl, trivial⟩ ?_
  refine R_iret ck_46_22 rfl (by rw [hT5.2.2.1]; cases (TT w 5 0 x).2.2 <;> rfl) ?_
  rw [hT5.2.2.1]
  exact hp t hT5
