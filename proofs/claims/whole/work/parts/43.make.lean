/-! ===== calls are made: what is done, and what holds then ===== -/
def NM (w : WW) : Prop := NIa (w 51) ∧ NIb (w 50 1) (w 51) ∧ NIc (w 50 1) (w 53) (w 51) ∧ NId (w 51) (w 17) (w 54) ∧ NIe (w 51) (w 53) (w 25) (w 50 1) (w 50 9) (w 1 4) ∧ NIf (w 52) ∧ NIh (w 50 9) (w 50 1) (w 53) (w 51) ∧ NIk (w 42 9) (w 51) ∧ (∀ c, c < w 42 5 → (w 44 c < 6 ∧ w 46 c ≤ 8 ∧ w 48 c + w 46 c ≤ w 42 9) ∧ ∀ i, i < w 46 c → w 49 (w 48 c + i) < 32 ∧ w 51 (w 44 c * 32 + w 49 (w 48 c + i)) ≠ 0 ∧ w 51 (w 44 c * 32 + w 49 (w 48 c + i)) ≠ 11 ∧ (w 19 (w 44 c) = 0 → w 25 (w 44 c * 32 + w 49 (w 48 c + i)) ≤ w 1 4))
theorem NI.nm {w : WW} (h : NI w) : NM w := by
  obtain ⟨h1, h2, h3, h4, h5, h6, h7, h8, h9⟩ := h
  exact ⟨h1, h2, h3, h4, h5, h6, h7, h8, h9.2⟩
theorem NM.ni {w : WW} (h : NM w) (hc : w 42 5 ≤ w 42 9) : NI w := by
  obtain ⟨h1, h2, h3, h4, h5, h6, h7, h8, h9⟩ := h
  exact ⟨h1, h2, h3, h4, h5, h6, h7, h8, hc, h9⟩
def aBegin (w : WW) (h t : Nat) : WW := up2 (up2 (up2 (up2 (up2 (up2 (up2 w 43 (w 42 5) h) 44 (w 42 5) t) 45 (w 42 5) (w 1 4)) 46 (w 42 5) 0) 47 (w 42 5) 3) 48 (w 42 5) (w 42 9)) 42 5 (w 42 5 + 1)
def aKey (w : WW) (k : Nat) : WW := up2 (up2 (up2 w 49 (w 42 9) k) 42 9 (w 42 9 + 1)) 46 (w 42 5 - 1) (w 46 (w 42 5 - 1) + 1)
def aTake (w : WW) (h x : Nat) : WW := up2 (up2 (aKey w (x % 32)) 51 x 12) 54 h (w 54 h - 1)
def tkg (b h t : Nat) : Nat → Nat → Nat → WW → WW
  | 0, _, _, w => w
  | m + 1, q, tk, w => if tk < b then (if w 51 (w 53 q) = 11 ∧ w 53 q / 32 = t then tkg b h t m (q + 1) (tk + 1) (aTake w h (w 53 q)) else tkg b h t m (q + 1) tk w) else w
theorem tkg_s (b h t m q tk : Nat) (w : WW) : tkg b h t (m + 1) q tk w = if tk < b then (if w 51 (w 53 q) = 11 ∧ w 53 q / 32 = t then tkg b h t m (q + 1) (tk + 1) (aTake w h (w 53 q)) else tkg b h t m (q + 1) tk w) else w := rfl
def mkc (b h : Nat) : Nat → Nat → WW → WW
  | 0, _, w => w
  | m + 1, q, w => if w 51 (w 53 q) = 11 ∧ w 17 (w 53 q / 32) = h then tkg b h (w 53 q / 32) m (q + 1) 1 (aTake (aBegin w h (w 53 q / 32)) h (w 53 q)) else mkc b h m (q + 1) w
theorem mkc_s (b h m q : Nat) (w : WW) : mkc b h (m + 1) q w = if w 51 (w 53 q) = 11 ∧ w 17 (w 53 q / 32) = h then tkg b h (w 53 q / 32) m (q + 1) 1 (aTake (aBegin w h (w 53 q / 32)) h (w 53 q)) else mkc b h m (q + 1) w := rfl
def aMake (h : Nat) (w : WW) : WW := mkc (w (11 + h) 1) h (w 50 1 - w 50 9) (w 50 9) w
theorem NM.begin {w : WW} (h : NM w) (g t : Nat) (ht : t < 6) : NM (aBegin w g t) := by
  obtain ⟨h1, h2, h3, h4, h5, h6, h7, h8, h9⟩ := h
  refine ⟨h1, h2, h3, h4, h5, h6, h7, h8, ?_⟩
  intro c hc
  have hc : c < w 42 5 + 1 := hc
  show (va_up (w 44) (w 42 5) t c < 6 ∧ va_up (w 46) (w 42 5) 0 c ≤ 8 ∧ va_up (w 48) (w 42 5) (w 42 9) c + va_up (w 46) (w 42 5) 0 c ≤ w 42 9) ∧ ∀ i, i < va_up (w 46) (w 42 5) 0 c → w 49 (va_up (w 48) (w 42 5) (w 42 9) c + i) < 32 ∧ w 51 (va_up (w 44) (w 42 5) t c * 32 + w 49 (va_up (w 48) (w 42 5) (w 42 9) c + i)) ≠ 0 ∧ w 51 (va_up (w 44) (w 42 5) t c * 32 + w 49 (va_up (w 48) (w 42 5) (w 42 9) c + i)) ≠ 11 ∧ (w 19 (va_up (w 44) (w 42 5) t c) = 0 → w 25 (va_up (w 44) (w 42 5) t c * 32 + w 49 (va_up (w 48) (w 42 5) (w 42 9) c + i)) ≤ w 1 4)
  by_cases e : c = w 42 5
  · subst e
    simp only [va_up, if_true]
    exact ⟨⟨ht, by omega, by omega⟩, fun i hi => absurd hi (Nat.not_lt_zero i)⟩
  · simp only [va_up, if_neg e]
    exact h9 c (by omega)
/-- a thing that waits goes into the last call -/
theorem NM.take {w : WW} (h : NM w) (hS : SO w) {q x g : Nat} (hx : x < 192) (hf : w 51 x = 11) (hg : w 17 (x / 32) = g) (hn : 1 ≤ w 42 5) (hl : w 48 (w 42 5 - 1) + w 46 (w 42 5 - 1) = w 42 9) (h8 : w 46 (w 42 5 - 1) < 8) (ht : w 44 (w 42 5 - 1) = x / 32) : w 42 9 < 192 ∧ 1 ≤ w 54 g ∧ NM (aTake w g x) := by
  obtain ⟨h1, h2, h3, h4, h5, h6, h7, hk, h9⟩ := h
  have k2 := hk.add hx hf
  have d2 := h4.set2 (v := 12) hx hf (by decide) (hS.1 (x / 32) (by omega)).1
  rw [hg] at d2
  have hkx := (h5 x hx hf).2
  refine ⟨k2.1, d2.1, h1.set (by decide), h2.set hx (by decide), h3.set (by decide), d2.2, h5.set (by decide), h6, h7.set (by decide), k2.2, ?_⟩
  intro c hc
  have hc : c < w 42 5 := hc
  obtain ⟨⟨a1, a2, a3⟩, a4⟩ := h9 c hc
  show (w 44 c < 6 ∧ va_up (w 46) (w 42 5 - 1) (w 46 (w 42 5 - 1) + 1) c ≤ 8 ∧ w 48 c + va_up (w 46) (w 42 5 - 1) (w 46 (w 42 5 - 1) + 1) c ≤ w 42 9 + 1) ∧ ∀ i, i < va_up (w 46) (w 42 5 - 1) (w 46 (w 42 5 - 1) + 1) c → va_up (w 49) (w 42 9) (x % 32) (w 48 c + i) < 32 ∧ va_up (w 51) x 12 (w 44 c * 32 + va_up (w 49) (w 42 9) (x % 32) (w 48 c + i)) ≠ 0 ∧ va_up (w 51) x 12 (w 44 c * 32 + va_up (w 49) (w 42 9) (x % 32) (w 48 c + i)) ≠ 11 ∧ (w 19 (w 44 c) = 0 → w 25 (w 44 c * 32 + va_up (w 49) (w 42 9) (x % 32) (w 48 c + i)) ≤ w 1 4)
  have old : ∀ i, i < w 46 c → va_up (w 49) (w 42 9) (x % 32) (w 48 c + i) < 32 ∧ va_up (w 51) x 12 (w 44 c * 32 + va_up (w 49) (w 42 9) (x % 32) (w 48 c + i)) ≠ 0 ∧ va_up (w 51) x 12 (w 44 c * 32 + va_up (w 49) (w 42 9) (x % 32) (w 48 c + i)) ≠ 11 ∧ (w 19 (w 44 c) = 0 → w 25 (w 44 c * 32 + va_up (w 49) (w 42 9) (x % 32) (w 48 c + i)) ≤ w 1 4) := by
    intro i hi
    rw [va_up_ne (w 49) (x % 32) (show w 48 c + i ≠ w 42 9 by omega)]
    obtain ⟨b1, b2, b3, b4⟩ := a4 i hi
    refine ⟨b1, ?_, ?_, b4⟩
    · unfold va_up; split
      · decide
      · exact b2
    · unfold va_up; split
      · decide
      · exact b3
  by_cases e : c = w 42 5 - 1
  · subst e
    rw [va_up_self]
    refine ⟨⟨a1, by omega, by omega⟩, fun i hi => ?_⟩
    rcases Nat.lt_or_ge i (w 46 (w 42 5 - 1)) with z | z
    · exact old i z
    · have ei : i = w 46 (w 42 5 - 1) := by omega
      subst ei
      rw [hl, va_up_self, ht, show x / 32 * 32 + x % 32 = x by omega, va_up_self]
      exact ⟨by omega, by decide, by decide, fun _ => hkx⟩
  · rw [va_up_ne (w 46) _ e]
    exact ⟨⟨a1, a2, by omega⟩, old⟩
/-- while the last call is filled -/
def TKG (w : WW) (h t tk : Nat) : Prop := NI w ∧ SO w ∧ 1 ≤ w 42 5 ∧ w 48 (w 42 5 - 1) + w 46 (w 42 5 - 1) = w 42 9 ∧ w 46 (w 42 5 - 1) = tk ∧ w 44 (w 42 5 - 1) = t ∧ w 17 t = h ∧ h < 5 ∧ t < 6
theorem TKG.take {w : WW} {h t tk x : Nat} (H : TKG w h t tk) (hx : x < 192) (hf : w 51 x = 11) (ht : x / 32 = t) (h8 : tk < 8) : (w 42 9 < 192 ∧ 1 ≤ w 54 h) ∧ TKG (aTake w h x) h t (tk + 1) := by
  obtain ⟨h1, h2, h3, h4, h5, h6, h7, hh, htt⟩ := H
  have := h1.nm.take (q := 0) (g := h) h2 hx hf (by rw [ht]; exact h7) h3 h4 (by omega) (by omega)
  have hl := h1.2.2.2.2.2.2.2.2.1
  refine ⟨⟨this.1, this.2.1⟩, this.2.2.ni (show w 42 5 ≤ w 42 9 + 1 by omega), h2, h3, ?_, ?_, h6, h7, hh, htt⟩
  · show w 48 (w 42 5 - 1) + va_up (w 46) (w 42 5 - 1) (w 46 (w 42 5 - 1) + 1) (w 42 5 - 1) = w 42 9 + 1
    rw [va_up_self]; omega
  · show va_up (w 46) (w 42 5 - 1) (w 46 (w 42 5 - 1) + 1) (w 42 5 - 1) = tk + 1
    rw [va_up_self]; omega
theorem NI.first {w : WW} (H : NI w) (hS : SO w) {h x : Nat} (hx : x < 192) (hf : w 51 x = 11) (hg : w 17 (x / 32) = h) : (w 42 5 < 192 ∧ w 42 9 < 192 ∧ 1 ≤ w 54 h) ∧ TKG (aTake (aBegin w h (x / 32)) h x) h (x / 32) 1 := by
  have hl := H.2.2.2.2.2.2.2.2.1
  have hk := (H.2.2.2.2.2.2.2.1.add hx hf).1
  have hb := H.nm.begin h (x / 32) (by omega)
  have e1 : (aBegin w h (x / 32)) 42 5 - 1 = w 42 5 := Nat.add_sub_cancel _ _
  have e2 : (aBegin w h (x / 32)) 46 (w 42 5) = 0 := va_up_self _ _ _
  have e3 : (aBegin w h (x / 32)) 48 (w 42 5) = w 42 9 := va_up_self _ _ _
  have e4 : (aBegin w h (x / 32)) 44 (w 42 5) = x / 32 := va_up_self _ _ _
  have := hb.take (q := 0) (x := x) (g := h) hS hx hf hg (show 1 ≤ w 42 5 + 1 by omega) (by rw [e1, e3, e2]; rfl) (by rw [e1, e2]; decide) (by rw [e1, e4])
  refine ⟨⟨by omega, hk, this.2.1⟩, this.2.2.ni (show w 42 5 + 1 ≤ w 42 9 + 1 by omega), hS, show 1 ≤ w 42 5 + 1 by omega, ?_, ?_, ?_, ?_, ?_, by omega⟩
  · show (aBegin w h (x / 32)) 48 (w 42 5 + 1 - 1) + va_up ((aBegin w h (x / 32)) 46) (w 42 5 + 1 - 1) ((aBegin w h (x / 32)) 46 (w 42 5 + 1 - 1) + 1) (w 42 5 + 1 - 1) = w 42 9 + 1
    rw [va_up_self, Nat.add_sub_cancel, e3, e2]
  · show va_up ((aBegin w h (x / 32)) 46) (w 42 5 + 1 - 1) ((aBegin w h (x / 32)) 46 (w 42 5 + 1 - 1) + 1) (w 42 5 + 1 - 1) = 1
    rw [va_up_self, Nat.add_sub_cancel, e2]
  · show (aBegin w h (x / 32)) 44 (w 42 5 + 1 - 1) = x / 32
    rw [Nat.add_sub_cancel, e4]
  · exact hg
  · rw [← hg]; exact (hS.1 (x / 32) (by omega)).1
theorem c_2 {d : Nat} {w : WW} {τ : Nat → Nat → Int64} {h t : Nat} (hn : w 42 5 < 192) {Post : Option Value → Sto → Prop} (hp : Post none (stt (nw (aBegin w h t)) τ)) : Ex (d + 1) 2 [.ref 42, .int (nI h), .int (nI t), .int (nI (w 1 4))] (stt (nw w) τ) 0 0 Post := by
  refine x_2 (σ := nw w) (n := w 42 5) rfl hn ?_
  unfold c_begin
  rw [show nw w 42 9 = nI (w 42 9) from rfl, nw_up (n := h) rfl, nw_up (n := t) rfl, nw_up (n := w 1 4) rfl, nw_up (v := 0) (n := 0) rfl, nw_up (v := 3) (n := 3) rfl, nw_up (n := w 42 9) rfl, nw_up (n := w 42 5 + 1) (nI_1 _)]
  exact hp
theorem c_3 {d : Nat} {w : WW} {τ : Nat → Nat → Int64} {k : Nat} (hn1 : 1 ≤ w 42 5) (hn : w 42 5 ≤ 192) (ha : w 42 9 < 192) {Post : Option Value → Sto → Prop} (hp : Post none (stt (nw (aKey w k)) τ)) : Ex (d + 1) 3 [.ref 42, .int (nI k)] (stt (nw w) τ) 0 0 Post := by
  refine x_3 (σ := nw w) (n := w 42 5) (a := w 42 9) rfl hn1 hn rfl ha ?_
  unfold c_addKey
  rw [show nw w 46 (w 42 5 - 1) = nI (w 46 (w 42 5 - 1)) from rfl, nw_up (n := k) rfl, nw_up (n := w 42 9 + 1) (nI_1 _), nw_up (n := w 46 (w 42 5 - 1) + 1) (nI_1 _)]
  exact hp
set_option maxRecDepth 20000 in
theorem l_31b {d a b h t : Nat} {τ : Nat → Nat → Int64} {Post : Option Value → Sto → Prop} (hb : b ≤ 8) : ∀ (nn : Nat) (q tk : Nat) (w : WW), TKG w h t tk → w 50 1 = a → q ≤ a → Post none (stt (nw (tkg b h t (a - q) q tk w)) τ) → a - q < nn → RU_31 (d + 1) (0, 0) Post 11 [(5, .int (nI q)), (4, .int (nI tk)), (3, .int (nI t)), (0, .ref 50), (1, .int (nI h)), (2, .int (nI b))] [] (stt (nw w) τ) 0 0 := by
  intro nn
  induction nn with
  | zero => intro q tk w H hq1 hqa hp hms; exact absurd hms (by omega)
  | succ nn ih =>
    intro q tk w H hq1 hqa hp hms
    have ha : w 50 1 = a := hq1
    obtain ⟨hN, hS, h3, h4, h5, h6, h7, hh, htt⟩ := id H
    have hNa := hN.1
    have hNc := hN.2.2.1
    have hl := hN.2.2.2.2.2.2.2.2.1
    have hkk := hN.2.2.2.2.2.2.2.1
    have hk3 : w 42 9 ≤ 192 := by unfold NIk at hkk; omega
    have ha3 : a ≤ 192 := by have := hN.2.1; unfold NIb at this; omega
    rw [ha] at hNc
    refine R_seg sg_31_11 sk_31_11 (pc' := 17) (lv' := [(5, .int (nI q)), (4, .int (nI tk)), (3, .int (nI t)), (0, .ref 50), (1, .int (nI h)), (2, .int (nI b))]) (st' := [.int (nI (w 50 1)), .int (nI q)]) (S' := stt (nw w) τ) (kc' := 0) (ks' := 0) rfl ⟨trivial, trivial, rfl, trivial⟩ ?_
    refine R_icmp ck_31_17 (fun (c_17 : (nI (w 50 1)) ≤ (nI q)) => ?_) (fun (c_17 : ¬ (nI (w 50 1)) ≤ (nI q)) => ?_)
    · have c_17 : (w 50 1) ≤ q := (nI_leI (a := (w 50 1)) (b := q) (by omega) (by omega)).mp c_17
      refine R_ret ck_31_141 rfl ?_
      first | (rw [show a - q = 0 by omega] at hp; exact hp) | (rw [tkg_s, if_neg (by omega)] at hp; exact hp)
    · have c_17 : q < (w 50 1) := Nat.not_le.mp (fun zq => c_17 ((nI_leI (a := (w 50 1)) (b := q) (by omega) (by omega)).mpr zq))
      obtain ⟨m, em⟩ : ∃ m, a - q = m + 1 := ⟨a - q - 1, by omega⟩
      rw [em] at hp
      have hxq := (hNc q (by omega)).1
      have em2 : m = a - (q + 1) := by omega
      subst em2
      refine R_seg sg_31_20 sk_31_20 (pc' := 23) (lv' := [(5, .int (nI q)), (4, .int (nI tk)), (3, .int (nI t)), (0, .ref 50), (1, .int (nI h)), (2, .int (nI b))]) (st' := [.int (nI b), .int (nI tk)]) (S' := stt (nw w) τ) (kc' := 0) (ks' := 0) rfl ⟨trivial, trivial, trivial⟩ ?_
      refine R_icmp ck_31_23 (fun (c_23 : (nI b) ≤ (nI tk)) => ?_) (fun (c_23 : ¬ (nI b) ≤ (nI tk)) => ?_)
      · have c_23 : b ≤ tk := (nI_leI (a := b) (b := tk) (by omega) (by omega)).mp c_23
        refine R_ret ck_31_141 rfl ?_
        first | (rw [show a - q = 0 by omega] at hp; exact hp) | (rw [tkg_s, if_neg (by omega)] at hp; exact hp)
      · have c_23 : tk < b := Nat.not_le.mp (fun zq => c_23 ((nI_leI (a := b) (b := tk) (by omega) (by omega)).mpr zq))
        have b51 := hNa (w 53 q) hxq
        refine R_seg sg_31_26 sk_31_26 (pc' := 32) (lv' := [(5, .int (nI q)), (4, .int (nI tk)), (3, .int (nI t)), (0, .ref 50), (1, .int (nI h)), (2, .int (nI b))]) (st' := [.int (nI q), .ref 53]) (S' := stt (nw w) τ) (kc' := 0) (ks' := 0) rfl ⟨trivial, rfl, trivial, trivial⟩ ?_
        refine R_iald ca_31_32 (j := q) rfl rfl (by omega) ?_
        refine R_seg sg_31_33 sk_31_33 (pc' := 48) (lv' := [(7, .int ((nI (w 53 q)) / 32)), (6, .int (nI (w 53 q))), (5, .int (nI q)), (4, .int (nI tk)), (3, .int (nI t)), (0, .ref 50), (1, .int (nI h)), (2, .int (nI b))]) (st' := [.int (nI (w 53 q)), .ref 51]) (S' := stt (nw w) τ) (kc' := 0) (ks' := 0) rfl ⟨(by decide), trivial, trivial, (by decide), (by decide), trivial, rfl, trivial, trivial⟩ ?_
        rw [show nI (w 53 q) / 32 = nI (w 53 q / 32) from pk_div (d := 32) (by omega) (by omega) (by omega)]
        refine R_iald ca_31_48 (j := w 53 q) rfl rfl (by omega) ?_
        refine R_seg sg_31_49 sk_31_49 (pc' := 51) (lv' := [(7, .int (nI (w 53 q / 32))), (6, .int (nI (w 53 q))), (5, .int (nI q)), (4, .int (nI tk)), (3, .int (nI t)), (0, .ref 50), (1, .int (nI h)), (2, .int (nI b))]) (st' := [.int 11, .int (nI (w 51 (w 53 q)))]) (S' := stt (nw w) τ) (kc' := 0) (ks' := 0) rfl ⟨trivial, trivial⟩ ?_
        refine R_icmp ck_31_51 (fun (c_51 : (nI (w 51 (w 53 q))) = 11) => ?_) (fun (c_51 : ¬ (nI (w 51 (w 53 q))) = 11) => ?_)
        · have c_51 : (w 51 (w 53 q)) = 11 := (nI_eq (a := (w 51 (w 53 q))) (b := 11) (by omega) (by omega)).mp c_51
          refine R_seg sg_31_57 sk_31_57 (pc' := 59) (lv' := [(7, .int (nI (w 53 q / 32))), (6, .int (nI (w 53 q))), (5, .int (nI q)), (4, .int (nI tk)), (3, .int (nI t)), (0, .ref 50), (1, .int (nI h)), (2, .int (nI b))]) (st' := [.int (-1), .int (nI t)]) (S' := stt (nw w) τ) (kc' := 0) (ks' := 0) rfl ⟨trivial, trivial, trivial⟩ ?_
          refine R_icmp ck_31_59 (fun (c_59 : ¬ (nI t) = (-1)) => ?_) (fun (c_59 : ¬ ¬ (nI t) = (-1)) => ?_)
          · refine R_seg sg_31_95 sk_31_95 (pc' := 98) (lv' := [(7, .int (nI (w 53 q / 32))), (6, .int (nI (w 53 q))), (5, .int (nI q)), (4, .int (nI tk)), (3, .int (nI t)), (0, .ref 50), (1, .int (nI h)), (2, .int (nI b))]) (st' := [.int (nI t), .int (nI (w 53 q / 32))]) (S' := stt (nw w) τ) (kc' := 0) (ks' := 0) rfl ⟨trivial, trivial, trivial⟩ ?_
            refine R_icmp ck_31_98 (fun (c_98 : ¬ (nI (w 53 q / 32)) = (nI t)) => ?_) (fun (c_98 : ¬ ¬ (nI (w 53 q / 32)) = (nI t)) => ?_)
            · have c_98 : ¬ (w 53 q / 32) = t := fun zq => c_98 ((nI_eq (a := (w 53 q / 32)) (b := t) (by omega) (by omega)).mpr zq)
              refine R_seg sg_31_135 sk_31_135 (pc' := 138) (lv' := [(5, .int ((nI q) + 1)), (7, .int (nI (w 53 q / 32))), (6, .int (nI (w 53 q))), (4, .int (nI tk)), (3, .int (nI t)), (0, .ref 50), (1, .int (nI h)), (2, .int (nI b))]) (st' := []) (S' := stt (nw w) τ) (kc' := 0) (ks' := 0) rfl ⟨(by decide), trivial⟩ ?_
              refine R_goto ck_31_138 ?_
              refine Runs.lv (lv := [(5, .int ((nI q) + 1)), (4, .int (nI tk)), (3, .int (nI t)), (0, .ref 50), (1, .int (nI h)), (2, .int (nI b))]) ?_ _ (lvS_l (show ([5, 4, 3, 0, 1, 2] : List Nat).Nodup from by decide) (by intro q hq; simp only [List.mem_cons, List.not_mem_nil, or_false] at hq; rcases hq with rfl | rfl | rfl | rfl | rfl | rfl <;> rfl))
              rw [nI_1 q]
              exact ih (q + 1) tk w H hq1 (by omega) (by first | (rw [tkg_s, if_pos c_23, if_neg (fun z => c_51 z.1)] at hp; exact hp) | (rw [tkg_s, if_pos c_23, if_neg (fun z => c_98 z.2)] at hp; exact hp)) (by omega)
            · have c_98 : (w 53 q / 32) = t := (nI_eq (a := (w 53 q / 32)) (b := t) (by omega) (by omega)).mp (Classical.not_not.mp c_98)
              have c_98 : w 53 q / 32 = t := c_98
              have HT := H.take hxq c_51 c_98 (by omega)
              have hka := HT.1.1
              have h54 := HT.1.2
              refine R_seg sg_31_101 sk_31_101 (pc' := 110) (lv' := [(7, .int (nI (w 53 q / 32))), (6, .int (nI (w 53 q))), (5, .int (nI q)), (4, .int (nI tk)), (3, .int (nI t)), (0, .ref 50), (1, .int (nI h)), (2, .int (nI b))]) (st' := [.int ((nI (w 53 q)) - (nI (w 53 q)) / 32 * 32), .ref 42]) (S' := stt (nw w) τ) (kc' := 0) (ks' := 0) rfl ⟨trivial, rfl, trivial, trivial, (by decide), trivial⟩ ?_
              rw [show nI (w 53 q) - nI (w 53 q) / 32 * 32 = nI (w 53 q % 32) from pk_rem (d := 32) (by omega) (by omega) (by omega)]
              refine R_virt ck_31_110 42 [.int (nI (w 53 q % 32))] 0 0 (r := []) rfl rfl rfl (Nat.le_of_ble_eq_true rfl) (Nat.le_refl _) (Nat.le_refl _) ?_
              refine c_3 (d := d) (by omega) (by omega) hka ?_
              show RU_31 (d + 1) (0, 0) Post 113 ([(7, .int (nI (w 53 q / 32))), (6, .int (nI (w 53 q))), (5, .int (nI q)), (4, .int (nI tk)), (3, .int (nI t)), (0, .ref 50), (1, .int (nI h)), (2, .int (nI b))]) ([]) (stt (nw (aKey w (w 53 q % 32))) τ) 0 0
              refine R_seg sg_31_113 sk_31_113 (pc' := 121) (lv' := [(7, .int (nI (w 53 q / 32))), (6, .int (nI (w 53 q))), (5, .int (nI q)), (4, .int (nI tk)), (3, .int (nI t)), (0, .ref 50), (1, .int (nI h)), (2, .int (nI b))]) (st' := [.int 12, .int (nI (w 53 q)), .ref 51]) (S' := stt (nw (aKey w (w 53 q % 32))) τ) (kc' := 0) (ks' := 0) rfl ⟨trivial, rfl, trivial, trivial, trivial⟩ ?_
              refine R_iast ca_31_121 (j := w 53 q) rfl rfl (by omega) ?_
              show RU_31 (d + 1) (0, 0) Post 122 ([(7, .int (nI (w 53 q / 32))), (6, .int (nI (w 53 q))), (5, .int (nI q)), (4, .int (nI tk)), (3, .int (nI t)), (0, .ref 50), (1, .int (nI h)), (2, .int (nI b))]) ([]) (stt (up2 (nw (aKey w (w 53 q % 32))) 51 (w 53 q) 12) τ) 0 0
              rw [nw_up (w := aKey w (w 53 q % 32)) (k := 51) (i := (w 53 q)) (v := 12) (n := 12) rfl]
              refine R_seg sg_31_122 sk_31_122 (pc' := 128) (lv' := [(7, .int (nI (w 53 q / 32))), (6, .int (nI (w 53 q))), (5, .int (nI q)), (4, .int (nI tk)), (3, .int (nI t)), (0, .ref 50), (1, .int (nI h)), (2, .int (nI b))]) (st' := [.int (nI h), .ref 54, .int (nI h), .ref 54]) (S' := stt (nw (up2 (aKey w (w 53 q % 32)) 51 (w 53 q) 12)) τ) (kc' := 0) (ks' := 0) rfl ⟨trivial, rfl, trivial, ⟨rfl, rfl⟩, trivial⟩ ?_
              refine R_iald ca_31_128 (j := h) rfl rfl (by omega) ?_
              refine R_seg sg_31_129 sk_31_129 (pc' := 131) (lv' := [(7, .int (nI (w 53 q / 32))), (6, .int (nI (w 53 q))), (5, .int (nI q)), (4, .int (nI tk)), (3, .int (nI t)), (0, .ref 50), (1, .int (nI h)), (2, .int (nI b))]) (st' := [.int ((nI ((aKey w (w 53 q % 32)) 54 h)) - 1), .int (nI h), .ref 54]) (S' := stt (nw (up2 (aKey w (w 53 q % 32)) 51 (w 53 q) 12)) τ) (kc' := 0) (ks' := 0) rfl ⟨trivial, trivial, trivial⟩ ?_
              refine R_iast ca_31_131 (j := h) rfl rfl (by omega) ?_
              show RU_31 (d + 1) (0, 0) Post 132 ([(7, .int (nI (w 53 q / 32))), (6, .int (nI (w 53 q))), (5, .int (nI q)), (4, .int (nI tk)), (3, .int (nI t)), (0, .ref 50), (1, .int (nI h)), (2, .int (nI b))]) ([]) (stt (up2 (nw (up2 (aKey w (w 53 q % 32)) 51 (w 53 q) 12)) 54 h ((nI ((aKey w (w 53 q % 32)) 54 h)) - 1)) τ) 0 0
              rw [nw_up (w := up2 (aKey w (w 53 q % 32)) 51 (w 53 q) 12) (k := 54) (i := h) (v := (nI ((aKey w (w 53 q % 32)) 54 h)) - 1) (n := w 54 h - 1) (show nI (w 54 h) - 1 = nI (w 54 h - 1) from pk_sub (b := 1) h54)]
              refine R_seg sg_31_132 sk_31_132 (pc' := 135) (lv' := [(4, .int ((nI tk) + 1)), (7, .int (nI (w 53 q / 32))), (6, .int (nI (w 53 q))), (5, .int (nI q)), (3, .int (nI t)), (0, .ref 50), (1, .int (nI h)), (2, .int (nI b))]) (st' := []) (S' := stt (nw (up2 (up2 (aKey w (w 53 q % 32)) 51 (w 53 q) 12) 54 h (w 54 h - 1))) τ) (kc' := 0) (ks' := 0) rfl ⟨(by decide), trivial⟩ ?_
              refine R_seg sg_31_135 sk_31_135 (pc' := 138) (lv' := [(5, .int ((nI q) + 1)), (4, .int ((nI tk) + 1)), (7, .int (nI (w 53 q / 32))), (6, .int (nI (w 53 q))), (3, .int (nI t)), (0, .ref 50), (1, .int (nI h)), (2, .int (nI b))]) (st' := []) (S' := stt (nw (up2 (up2 (aKey w (w 53 q % 32)) 51 (w 53 q) 12) 54 h (w 54 h - 1))) τ) (kc' := 0) (ks' := 0) rfl ⟨(by decide), trivial⟩ ?_
              refine R_goto ck_31_138 ?_
              refine Runs.lv (lv := [(5, .int ((nI q) + 1)), (4, .int ((nI tk) + 1)), (3, .int (nI t)), (0, .ref 50), (1, .int (nI h)), (2, .int (nI b))]) ?_ _ (lvS_l (show ([5, 4, 3, 0, 1, 2] : List Nat).Nodup from by decide) (by intro q hq; simp only [List.mem_cons, List.not_mem_nil, or_false] at hq; rcases hq with rfl | rfl | rfl | rfl | rfl | rfl <;> rfl))
              rw [nI_1 q]
              rw [nI_1 tk]
              exact ih (q + 1) (tk + 1) (aTake w h (w 53 q)) HT.2 hq1 (by omega) (by rw [tkg_s, if_pos c_23, if_pos ⟨c_51, c_98⟩] at hp; exact hp) (by omega)
          · exact absurd (Classical.not_not.mp c_59) (nI_m1 (by omega))
        · have c_51 : ¬ (w 51 (w 53 q)) = 11 := fun zq => c_51 ((nI_eq (a := (w 51 (w 53 q))) (b := 11) (by omega) (by omega)).mpr zq)
          refine R_goto ck_31_54 ?_
          refine R_seg sg_31_135 sk_31_135 (pc' := 138) (lv' := [(5, .int ((nI q) + 1)), (7, .int (nI (w 53 q / 32))), (6, .int (nI (w 53 q))), (4, .int (nI tk)), (3, .int (nI t)), (0, .ref 50), (1, .int (nI h)), (2, .int (nI b))]) (st' := []) (S' := stt (nw w) τ) (kc' := 0) (ks' := 0) rfl ⟨(by decide), trivial⟩ ?_
          refine R_goto ck_31_138 ?_
          refine Runs.lv (lv := [(5, .int ((nI q) + 1)), (4, .int (nI tk)), (3, .int (nI t)), (0, .ref 50), (1, .int (nI h)), (2, .int (nI b))]) ?_ _ (lvS_l (show ([5, 4, 3, 0, 1, 2] : List Nat).Nodup from by decide) (by intro q hq; simp only [List.mem_cons, List.not_mem_nil, or_false] at hq; rcases hq with rfl | rfl | rfl | rfl | rfl | rfl <;> rfl))
          rw [nI_1 q]
          exact ih (q + 1) tk w H hq1 (by omega) (by first | (rw [tkg_s, if_pos c_23, if_neg (fun z => c_51 z.1)] at hp; exact hp) | (rw [tkg_s, if_pos c_23, if_neg (fun z => c_98 z.2)] at hp; exact hp)) (by omega)
set_option maxRecDepth 20000 in
theorem l_31 {d b h : Nat} {w : WW} {τ : Nat → Nat → Int64} {Post : Option Value → Sto → Prop} (hb1 : 1 ≤ b) (hb : b ≤ 8) (hh : h < 5) (hN : NI w) (hS : SO w) : ∀ (nn : Nat) (q : Nat), q ≤ w 50 1 → Post none (stt (nw (mkc b h (w 50 1 - q) q w)) τ) → w 50 1 - q < nn → RU_31 (d + 1) (0, 0) Post 11 [(5, .int (nI q)), (4, .int 0), (3, .int (-1)), (0, .ref 50), (1, .int (nI h)), (2, .int (nI b))] [] (stt (nw w) τ) 0 0 := by
  intro nn
  induction nn with
  | zero => intro q hqa hp hms; exact absurd hms (by omega)
  | succ nn ih =>
    intro q hqa hp hms
    have hNa := hN.1
    have hNc := hN.2.2.1
    have hl := hN.2.2.2.2.2.2.2.2.1
    have hkk := hN.2.2.2.2.2.2.2.1
    have hk3 : w 42 9 ≤ 192 := by unfold NIk at hkk; omega
    have ha3 : w 50 1 ≤ 192 := by have := hN.2.1; unfold NIb at this; omega
    refine R_seg sg_31_11 sk_31_11 (pc' := 17) (lv' := [(5, .int (nI q)), (4, .int 0), (3, .int (-1)), (0, .ref 50), (1, .int (nI h)), (2, .int (nI b))]) (st' := [.int (nI (w 50 1)), .int (nI q)]) (S' := stt (nw w) τ) (kc' := 0) (ks' := 0) rfl ⟨trivial, trivial, rfl, trivial⟩ ?_
    refine R_icmp ck_31_17 (fun (c_17 : (nI (w 50 1)) ≤ (nI q)) => ?_) (fun (c_17 : ¬ (nI (w 50 1)) ≤ (nI q)) => ?_)
    · have c_17 : (w 50 1) ≤ q := (nI_leI (a := (w 50 1)) (b := q) (by omega) (by omega)).mp c_17
      refine R_ret ck_31_141 rfl ?_
      rw [show w 50 1 - q = 0 by omega] at hp
      exact hp
    · have c_17 : q < (w 50 1) := Nat.not_le.mp (fun zq => c_17 ((nI_leI (a := (w 50 1)) (b := q) (by omega) (by omega)).mpr zq))
      obtain ⟨m, em⟩ : ∃ m, w 50 1 - q = m + 1 := ⟨w 50 1 - q - 1, by omega⟩
      rw [em] at hp
      have hxq := (hNc q (by omega)).1
      have b51 := hNa (w 53 q) hxq
      have em2 : m = w 50 1 - (q + 1) := by omega
      subst em2
      refine R_seg sg_31_20 sk_31_20 (pc' := 23) (lv' := [(5, .int (nI q)), (4, .int 0), (3, .int (-1)), (0, .ref 50), (1, .int (nI h)), (2, .int (nI b))]) (st' := [.int (nI b), .int 0]) (S' := stt (nw w) τ) (kc' := 0) (ks' := 0) rfl ⟨trivial, trivial, trivial⟩ ?_
      refine R_icmp ck_31_23 (fun (c_23 : (nI b) ≤ 0) => ?_) (fun (c_23 : ¬ (nI b) ≤ 0) => ?_)
      · have c_23 : b ≤ 0 := (nI_leI (a := b) (b := 0) (by omega) (by omega)).mp c_23
        omega
      · have c_23 : 0 < b := Nat.not_le.mp (fun zq => c_23 ((nI_leI (a := b) (b := 0) (by omega) (by omega)).mpr zq))
        refine R_seg sg_31_26 sk_31_26 (pc' := 32) (lv' := [(5, .int (nI q)), (4, .int 0), (3, .int (-1)), (0, .ref 50), (1, .int (nI h)), (2, .int (nI b))]) (st' := [.int (nI q), .ref 53]) (S' := stt (nw w) τ) (kc' := 0) (ks' := 0) rfl ⟨trivial, rfl, trivial, trivial⟩ ?_
        refine R_iald ca_31_32 (j := q) rfl rfl (by omega) ?_
        refine R_seg sg_31_33 sk_31_33 (pc' := 48) (lv' := [(7, .int ((nI (w 53 q)) / 32)), (6, .int (nI (w 53 q))), (5, .int (nI q)), (4, .int 0), (3, .int (-1)), (0, .ref 50), (1, .int (nI h)), (2, .int (nI b))]) (st' := [.int (nI (w 53 q)), .ref 51]) (S' := stt (nw w) τ) (kc' := 0) (ks' := 0) rfl ⟨(by decide), trivial, trivial, (by decide), (by decide), trivial, rfl, trivial, trivial⟩ ?_
        rw [show nI (w 53 q) / 32 = nI (w 53 q / 32) from pk_div (d := 32) (by omega) (by omega) (by omega)]
        refine R_iald ca_31_48 (j := w 53 q) rfl rfl (by omega) ?_
        refine R_seg sg_31_49 sk_31_49 (pc' := 51) (lv' := [(7, .int (nI (w 53 q / 32))), (6, .int (nI (w 53 q))), (5, .int (nI q)), (4, .int 0), (3, .int (-1)), (0, .ref 50), (1, .int (nI h)), (2, .int (nI b))]) (st' := [.int 11, .int (nI (w 51 (w 53 q)))]) (S' := stt (nw w) τ) (kc' := 0) (ks' := 0) rfl ⟨trivial, trivial⟩ ?_
        refine R_icmp ck_31_51 (fun (c_51 : (nI (w 51 (w 53 q))) = 11) => ?_) (fun (c_51 : ¬ (nI (w 51 (w 53 q))) = 11) => ?_)
        · have c_51 : (w 51 (w 53 q)) = 11 := (nI_eq (a := (w 51 (w 53 q))) (b := 11) (by omega) (by omega)).mp c_51
          have b17 := (hS.1 (w 53 q / 32) (by omega)).1
          refine R_seg sg_31_57 sk_31_57 (pc' := 59) (lv' := [(7, .int (nI (w 53 q / 32))), (6, .int (nI (w 53 q))), (5, .int (nI q)), (4, .int 0), (3, .int (-1)), (0, .ref 50), (1, .int (nI h)), (2, .int (nI b))]) (st' := [.int (-1), .int (-1)]) (S' := stt (nw w) τ) (kc' := 0) (ks' := 0) rfl ⟨trivial, trivial, trivial⟩ ?_
          refine R_icmp ck_31_59 (fun c => absurd c (show ¬ ¬ (-1 : Int32) = (-1) from by decide)) (fun _ => ?_)
          refine R_seg sg_31_62 sk_31_62 (pc' := 71) (lv' := [(7, .int (nI (w 53 q / 32))), (6, .int (nI (w 53 q))), (5, .int (nI q)), (4, .int 0), (3, .int (-1)), (0, .ref 50), (1, .int (nI h)), (2, .int (nI b))]) (st' := [.int (nI (w 53 q / 32)), .ref 17]) (S' := stt (nw w) τ) (kc' := 0) (ks' := 0) rfl ⟨trivial, rfl, rfl, trivial, trivial⟩ ?_
          refine R_iald ca_31_71 (j := w 53 q / 32) rfl rfl (by omega) ?_
          refine R_seg sg_31_72 sk_31_72 (pc' := 73) (lv' := [(7, .int (nI (w 53 q / 32))), (6, .int (nI (w 53 q))), (5, .int (nI q)), (4, .int 0), (3, .int (-1)), (0, .ref 50), (1, .int (nI h)), (2, .int (nI b))]) (st' := [.int (nI h), .int (nI (w 17 (w 53 q / 32)))]) (S' := stt (nw w) τ) (kc' := 0) (ks' := 0) rfl ⟨trivial, trivial⟩ ?_
          refine R_icmp ck_31_73 (fun (c_73 : ¬ (nI (w 17 (w 53 q / 32))) = (nI h)) => ?_) (fun (c_73 : ¬ ¬ (nI (w 17 (w 53 q / 32))) = (nI h)) => ?_)
          · have c_73 : ¬ (w 17 (w 53 q / 32)) = h := fun zq => c_73 ((nI_eq (a := (w 17 (w 53 q / 32))) (b := h) (by omega) (by omega)).mpr zq)
            refine R_seg sg_31_95 sk_31_95 (pc' := 98) (lv' := [(7, .int (nI (w 53 q / 32))), (6, .int (nI (w 53 q))), (5, .int (nI q)), (4, .int 0), (3, .int (-1)), (0, .ref 50), (1, .int (nI h)), (2, .int (nI b))]) (st' := [.int (-1), .int (nI (w 53 q / 32))]) (S' := stt (nw w) τ) (kc' := 0) (ks' := 0) rfl ⟨trivial, trivial, trivial⟩ ?_
            refine R_icmp ck_31_98 (fun (c_98 : ¬ (nI (w 53 q / 32)) = (-1)) => ?_) (fun (c_98 : ¬ ¬ (nI (w 53 q / 32)) = (-1)) => ?_)
            · skip
              refine R_seg sg_31_135 sk_31_135 (pc' := 138) (lv' := [(5, .int ((nI q) + 1)), (7, .int (nI (w 53 q / 32))), (6, .int (nI (w 53 q))), (4, .int 0), (3, .int (-1)), (0, .ref 50), (1, .int (nI h)), (2, .int (nI b))]) (st' := []) (S' := stt (nw w) τ) (kc' := 0) (ks' := 0) rfl ⟨(by decide), trivial⟩ ?_
              refine R_goto ck_31_138 ?_
              refine Runs.lv (lv := [(5, .int ((nI q) + 1)), (4, .int 0), (3, .int (-1)), (0, .ref 50), (1, .int (nI h)), (2, .int (nI b))]) ?_ _ (lvS_l (show ([5, 4, 3, 0, 1, 2] : List Nat).Nodup from by decide) (by intro q hq; simp only [List.mem_cons, List.not_mem_nil, or_false] at hq; rcases hq with rfl | rfl | rfl | rfl | rfl | rfl <;> rfl))
              rw [nI_1 q]
              exact ih (q + 1) (by omega) (by first | (rw [mkc_s, if_neg (fun z => c_51 z.1)] at hp; exact hp) | (rw [mkc_s, if_neg (fun z => c_73 z.2)] at hp; exact hp)) (by omega)
            · exact absurd (Classical.not_not.mp c_98) (nI_m1 (by omega))
          · have c_73 : (w 17 (w 53 q / 32)) = h := (nI_eq (a := (w 17 (w 53 q / 32))) (b := h) (by omega) (by omega)).mp (Classical.not_not.mp c_73)
            have HT := hN.first hS hxq c_51 c_73
            have h54 := HT.1.2.2
            have h42 := HT.1.1
            have h429 := HT.1.2.1
            refine R_seg sg_31_76 sk_31_76 (pc' := 92) (lv' := [(3, .int (nI (w 53 q / 32))), (7, .int (nI (w 53 q / 32))), (6, .int (nI (w 53 q))), (5, .int (nI q)), (4, .int 0), (0, .ref 50), (1, .int (nI h)), (2, .int (nI b))]) (st' := [.int (nI (w 1 4)), .int (nI (w 53 q / 32)), .int (nI h), .ref 42]) (S' := stt (nw w) τ) (kc' := 0) (ks' := 0) rfl ⟨trivial, (by decide), trivial, rfl, trivial, trivial, trivial, rfl, rfl, trivial⟩ ?_
            refine R_virt ck_31_92 42 [.int (nI h), .int (nI (w 53 q / 32)), .int (nI (w 1 4))] 0 0 (r := []) rfl rfl rfl (Nat.le_of_ble_eq_true rfl) (Nat.le_refl _) (Nat.le_refl _) ?_
            refine c_2 (d := d) (by omega) ?_
            show RU_31 (d + 1) (0, 0) Post 95 ([(3, .int (nI (w 53 q / 32))), (7, .int (nI (w 53 q / 32))), (6, .int (nI (w 53 q))), (5, .int (nI q)), (4, .int 0), (0, .ref 50), (1, .int (nI h)), (2, .int (nI b))]) ([]) (stt (nw (aBegin w h (w 53 q / 32))) τ) 0 0
            refine R_seg sg_31_95 sk_31_95 (pc' := 98) (lv' := [(3, .int (nI (w 53 q / 32))), (7, .int (nI (w 53 q / 32))), (6, .int (nI (w 53 q))), (5, .int (nI q)), (4, .int 0), (0, .ref 50), (1, .int (nI h)), (2, .int (nI b))]) (st' := [.int (nI (w 53 q / 32)), .int (nI (w 53 q / 32))]) (S' := stt (nw (aBegin w h (w 53 q / 32))) τ) (kc' := 0) (ks' := 0) rfl ⟨trivial, trivial, trivial⟩ ?_
            refine R_icmp ck_31_98 (fun (c_98 : ¬ (nI (w 53 q / 32)) = (nI (w 53 q / 32))) => ?_) (fun (c_98 : ¬ ¬ (nI (w 53 q / 32)) = (nI (w 53 q / 32))) => ?_)
            · have c_98 : ¬ (w 53 q / 32) = (w 53 q / 32) := fun zq => c_98 ((nI_eq (a := (w 53 q / 32)) (b := (w 53 q / 32)) (by omega) (by omega)).mpr zq)
              exact absurd rfl c_98
            · have c_98 : (w 53 q / 32) = (w 53 q / 32) := (nI_eq (a := (w 53 q / 32)) (b := (w 53 q / 32)) (by omega) (by omega)).mp (Classical.not_not.mp c_98)
              skip
              refine R_seg sg_31_101 sk_31_101 (pc' := 110) (lv' := [(3, .int (nI (w 53 q / 32))), (7, .int (nI (w 53 q / 32))), (6, .int (nI (w 53 q))), (5, .int (nI q)), (4, .int 0), (0, .ref 50), (1, .int (nI h)), (2, .int (nI b))]) (st' := [.int ((nI (w 53 q)) - (nI (w 53 q)) / 32 * 32), .ref 42]) (S' := stt (nw (aBegin w h (w 53 q / 32))) τ) (kc' := 0) (ks' := 0) rfl ⟨trivial, rfl, trivial, trivial, (by decide), trivial⟩ ?_
              rw [show nI (w 53 q) - nI (w 53 q) / 32 * 32 = nI (w 53 q % 32) from pk_rem (d := 32) (by omega) (by omega) (by omega)]
              refine R_virt ck_31_110 42 [.int (nI (w 53 q % 32))] 0 0 (r := []) rfl rfl rfl (Nat.le_of_ble_eq_true rfl) (Nat.le_refl _) (Nat.le_refl _) ?_
              refine c_3 (d := d) (w := aBegin w h (w 53 q / 32)) (show 1 ≤ w 42 5 + 1 by omega) (show w 42 5 + 1 ≤ 192 by omega) (show w 42 9 < 192 by omega) ?_
              show RU_31 (d + 1) (0, 0) Post 113 ([(3, .int (nI (w 53 q / 32))), (7, .int (nI (w 53 q / 32))), (6, .int (nI (w 53 q))), (5, .int (nI q)), (4, .int 0), (0, .ref 50), (1, .int (nI h)), (2, .int (nI b))]) ([]) (stt (nw (aKey (aBegin w h (w 53 q / 32)) (w 53 q % 32))) τ) 0 0
              refine R_seg sg_31_113 sk_31_113 (pc' := 121) (lv' := [(3, .int (nI (w 53 q / 32))), (7, .int (nI (w 53 q / 32))), (6, .int (nI (w 53 q))), (5, .int (nI q)), (4, .int 0), (0, .ref 50), (1, .int (nI h)), (2, .int (nI b))]) (st' := [.int 12, .int (nI (w 53 q)), .ref 51]) (S' := stt (nw (aKey (aBegin w h (w 53 q / 32)) (w 53 q % 32))) τ) (kc' := 0) (ks' := 0) rfl ⟨trivial, rfl, trivial, trivial, trivial⟩ ?_
              refine R_iast ca_31_121 (j := w 53 q) rfl rfl (by omega) ?_
              show RU_31 (d + 1) (0, 0) Post 122 ([(3, .int (nI (w 53 q / 32))), (7, .int (nI (w 53 q / 32))), (6, .int (nI (w 53 q))), (5, .int (nI q)), (4, .int 0), (0, .ref 50), (1, .int (nI h)), (2, .int (nI b))]) ([]) (stt (up2 (nw (aKey (aBegin w h (w 53 q / 32)) (w 53 q % 32))) 51 (w 53 q) 12) τ) 0 0
              rw [nw_up (w := aKey (aBegin w h (w 53 q / 32)) (w 53 q % 32)) (k := 51) (i := (w 53 q)) (v := 12) (n := 12) rfl]
              refine R_seg sg_31_122 sk_31_122 (pc' := 128) (lv' := [(3, .int (nI (w 53 q / 32))), (7, .int (nI (w 53 q / 32))), (6, .int (nI (w 53 q))), (5, .int (nI q)), (4, .int 0), (0, .ref 50), (1, .int (nI h)), (2, .int (nI b))]) (st' := [.int (nI h), .ref 54, .int (nI h), .ref 54]) (S' := stt (nw (up2 (aKey (aBegin w h (w 53 q / 32)) (w 53 q % 32)) 51 (w 53 q) 12)) τ) (kc' := 0) (ks' := 0) rfl ⟨trivial, rfl, trivial, ⟨rfl, rfl⟩, trivial⟩ ?_
              refine R_iald ca_31_128 (j := h) rfl rfl (by omega) ?_
              refine R_seg sg_31_129 sk_31_129 (pc' := 131) (lv' := [(3, .int (nI (w 53 q / 32))), (7, .int (nI (w 53 q / 32))), (6, .int (nI (w 53 q))), (5, .int (nI q)), (4, .int 0), (0, .ref 50), (1, .int (nI h)), (2, .int (nI b))]) (st' := [.int ((nI ((aKey (aBegin w h (w 53 q / 32)) (w 53 q % 32)) 54 h)) - 1), .int (nI h), .ref 54]) (S' := stt (nw (up2 (aKey (aBegin w h (w 53 q / 32)) (w 53 q % 32)) 51 (w 53 q) 12)) τ) (kc' := 0) (ks' := 0) rfl ⟨trivial, trivial, trivial⟩ ?_
              refine R_iast ca_31_131 (j := h) rfl rfl (by omega) ?_
              show RU_31 (d + 1) (0, 0) Post 132 ([(3, .int (nI (w 53 q / 32))), (7, .int (nI (w 53 q / 32))), (6, .int (nI (w 53 q))), (5, .int (nI q)), (4, .int 0), (0, .ref 50), (1, .int (nI h)), (2, .int (nI b))]) ([]) (stt (up2 (nw (up2 (aKey (aBegin w h (w 53 q / 32)) (w 53 q % 32)) 51 (w 53 q) 12)) 54 h ((nI ((aKey (aBegin w h (w 53 q / 32)) (w 53 q % 32)) 54 h)) - 1)) τ) 0 0
              rw [nw_up (w := up2 (aKey (aBegin w h (w 53 q / 32)) (w 53 q % 32)) 51 (w 53 q) 12) (k := 54) (i := h) (v := (nI ((aKey (aBegin w h (w 53 q / 32)) (w 53 q % 32)) 54 h)) - 1) (n := w 54 h - 1) (show nI (w 54 h) - 1 = nI (w 54 h - 1) from pk_sub (b := 1) h54)]
              refine R_seg sg_31_132 sk_31_132 (pc' := 135) (lv' := [(4, .int 1), (3, .int (nI (w 53 q / 32))), (7, .int (nI (w 53 q / 32))), (6, .int (nI (w 53 q))), (5, .int (nI q)), (0, .ref 50), (1, .int (nI h)), (2, .int (nI b))]) (st' := []) (S' := stt (nw (up2 (up2 (aKey (aBegin w h (w 53 q / 32)) (w 53 q % 32)) 51 (w 53 q) 12) 54 h (w 54 h - 1))) τ) (kc' := 0) (ks' := 0) rfl ⟨(by decide), trivial⟩ ?_
              refine R_seg sg_31_135 sk_31_135 (pc' := 138) (lv' := [(5, .int ((nI q) + 1)), (4, .int 1), (3, .int (nI (w 53 q / 32))), (7, .int (nI (w 53 q / 32))), (6, .int (nI (w 53 q))), (0, .ref 50), (1, .int (nI h)), (2, .int (nI b))]) (st' := []) (S' := stt (nw (up2 (up2 (aKey (aBegin w h (w 53 q / 32)) (w 53 q % 32)) 51 (w 53 q) 12) 54 h (w 54 h - 1))) τ) (kc' := 0) (ks' := 0) rfl ⟨(by decide), trivial⟩ ?_
              refine R_goto ck_31_138 ?_
              refine Runs.lv (lv := [(5, .int ((nI q) + 1)), (4, .int 1), (3, .int (nI (w 53 q / 32))), (0, .ref 50), (1, .int (nI h)), (2, .int (nI b))]) ?_ _ (lvS_l (show ([5, 4, 3, 0, 1, 2] : List Nat).Nodup from by decide) (by intro q hq; simp only [List.mem_cons, List.not_mem_nil, or_false] at hq; rcases hq with rfl | rfl | rfl | rfl | rfl | rfl <;> rfl))
              rw [nI_1 q]
              rw [nl_1]
              exact l_31b (a := w 50 1) hb (w 50 1 - (q + 1) + 1) (q + 1) 1 _ HT.2 rfl (by omega) (by rw [mkc_s, if_pos ⟨c_51, c_73⟩] at hp; exact hp) (by omega)
        · have c_51 : ¬ (w 51 (w 53 q)) = 11 := fun zq => c_51 ((nI_eq (a := (w 51 (w 53 q))) (b := 11) (by omega) (by omega)).mpr zq)
          skip
          refine R_goto ck_31_54 ?_
          refine R_seg sg_31_135 sk_31_135 (pc' := 138) (lv' := [(5, .int ((nI q) + 1)), (7, .int (nI (w 53 q / 32))), (6, .int (nI (w 53 q))), (4, .int 0), (3, .int (-1)), (0, .ref 50), (1, .int (nI h)), (2, .int (nI b))]) (st' := []) (S' := stt (nw w) τ) (kc' := 0) (ks' := 0) rfl ⟨(by decide), trivial⟩ ?_
          refine R_goto ck_31_138 ?_
          refine Runs.lv (lv := [(5, .int ((nI q) + 1)), (4, .int 0), (3, .int (-1)), (0, .ref 50), (1, .int (nI h)), (2, .int (nI b))]) ?_ _ (lvS_l (show ([5, 4, 3, 0, 1, 2] : List Nat).Nodup from by decide) (by intro q hq; simp only [List.mem_cons, List.not_mem_nil, or_false] at hq; rcases hq with rfl | rfl | rfl | rfl | rfl | rfl <;> rfl))
          rw [nI_1 q]
          exact ih (q + 1) (by omega) (by first | (rw [mkc_s, if_neg (fun z => c_51 z.1)] at hp; exact hp) | (rw [mkc_s, if_neg (fun z => c_73 z.2)] at hp; exact hp)) (by omega)
set_option maxRecDepth 20000 in
theorem c_31 {d : Nat} {w : WW} {τ : Nat → Nat → Int64} {b h : Nat} {Post : Option Value → Sto → Prop} (hb1 : 1 ≤ b) (hb : b ≤ 8) (hh : h < 5) (hN : NI w) (hS : SO w) (hp : Post none (stt (nw (mkc b h (w 50 1 - w 50 9) (w 50 9) w)) τ)) : Ex (d + 2) 31 [.ref 50, .int (nI h), .int (nI b)] (stt (nw w) τ) 0 0 Post := by
  refine en_31 (Nat.le_of_ble_eq_true rfl) ?_
  show RU_31 (d + 1) (0, 0) Post 0 ([(0, .ref 50), (1, .int (nI h)), (2, .int (nI b))]) ([]) (stt (nw w) τ) 0 0
  refine R_seg sg_31_0 sk_31_0 (pc' := 11) (lv' := [(5, .int (nI (w 50 9))), (4, .int 0), (3, .int (-1)), (0, .ref 50), (1, .int (nI h)), (2, .int (nI b))]) (st' := []) (S' := stt (nw w) τ) (kc' := 0) (ks' := 0) rfl ⟨trivial, (by decide), trivial, (by decide), trivial, rfl, (by decide), trivial⟩ ?_
  exact l_31 hb1 hb hh hN hS (w 50 1 - w 50 9 + 1) (w 50 9) hN.2.2.2.2.2.2.1.1 hp (by omega)
