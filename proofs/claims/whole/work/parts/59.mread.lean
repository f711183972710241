/-! ===== reading: the model goes along ===== -/
theorem RMd.close {w v : WW} {τ : Nat → Nat → Int64} (h : RMd w v τ) (q : Nat) : RMd (rClose w) (up2 v 57 33 (q + 1)) τ := ⟨h.1, h.2.1, fun l hl => h.2.2 l (by have hl : l < w 40 3 - 1 := hl; omega)⟩
/-- a field, without a node or with one -/
theorem RMd.field {w v : WW} {τ : Nat → Nat → Int64} (h : RMd w v τ) {n f q : Nat} (hn : n < w 32 7) (h6 : ∀ m, m < w 32 7 → w 37 m ≤ 6) (hk : w 20 (w 33 n * 4 + f) = 0) (hw : w 37 n < 6) : RMd (rField w n f) (up2 (up2 (up2 (up2 v 90 (n * 6 + w 37 n) f) 91 (n * 6 + w 37 n) N1) 89 n (w 37 n + 1)) 57 33 (q + 1)) τ := by
  unfold rField
  rw [if_pos hk]
  obtain ⟨h1, h2, h3⟩ := h
  refine ⟨h1, fun m hm => ?_, h3⟩
  have hm : m < w 32 7 := hm
  obtain ⟨⟨a1, a2, a3, a4⟩, a5⟩ := h2 m hm
  refine ⟨⟨a1, a2, ?_, a4⟩, fun i hi => ?_⟩
  · show va_up (v 89) n (w 37 n + 1) m = va_up (w 37) n (w 37 n + 1) m
    unfold va_up
    split
    · rfl
    · exact a3
  · have hi : i < va_up (w 37) n (w 37 n + 1) m := hi
    show va_up (v 90) (n * 6 + w 37 n) f (m * 6 + i) = va_up (w 38) (n * 6 + w 37 n) f (m * 6 + i) ∧ va_up (v 91) (n * 6 + w 37 n) N1 (m * 6 + i) = va_up (w 39) (n * 6 + w 37 n) N1 (m * 6 + i)
    by_cases z : m * 6 + i = n * 6 + w 37 n
    · rw [z, va_up_self, va_up_self, va_up_self, va_up_self]; exact ⟨rfl, rfl⟩
    · rw [va_up_ne _ _ z, va_up_ne _ _ z, va_up_ne _ _ z, va_up_ne _ _ z]
      refine a5 i ?_
      unfold va_up at hi
      split at hi
      · rename_i e; subst e
        rcases Nat.lt_or_ge i (w 37 m) with y | y
        · exact y
        · exact absurd (show m * 6 + i = m * 6 + w 37 m by omega) z
      · exact hi
theorem RMd.node {w v : WW} {τ : Nat → Nat → Int64} (h : RMd w v τ) {n f q lv : Nat} {F : Int64} (hlv : w 40 3 = lv) (hn : n < w 32 7) (h6 : ∀ m, m < w 32 7 → w 37 m ≤ 6) (hk : w 20 (w 33 n * 4 + f) ≠ 0) (hw : w 37 n < 6) (hn20 : w 32 7 < 20) (hF : τ 92 n * F = lN (w 35 n * fac w (w 33 n * 4 + f))) : RMd (rNode (rField w n f) q) (up2 (up2 (up2 (up2 (up2 (up2 (up2 (up2 (up2 (up2 v 90 (n * 6 + w 37 n) f) 91 (n * 6 + w 37 n) N1) 89 n (w 37 n + 1)) 91 (n * 6 + w 37 n) (w 32 7)) 87 (w 32 7) (w 21 (w 33 n * 4 + f))) 88 (w 32 7) q) 89 (w 32 7) 0) 93 lv (w 32 7)) 57 35 (w 32 7 + 1)) 57 33 (q + 1)) (up2 τ 92 (w 32 7) (τ 92 n * F)) := by
  obtain ⟨h1, h2, h3⟩ := h
  have e : rNode (rField w n f) q = up2 (up2 (rOpen (rField w n f) q) 39 (n * 6 + w 37 n) (w 32 7)) 40 4 1 := by
    have gs : rField w n f 40 7 = n * 6 + w 37 n := by unfold rField; rw [if_neg hk]; rfl
    have g7 : rField w n f 32 7 = w 32 7 := by unfold rField; rw [if_neg hk]; rfl
    unfold rNode
    rw [gs, if_neg (show ¬ (n * 6 + w 37 n = N1) by intro z; have z : n * 6 + w 37 n = 4294967295 := z; omega), g7]
  rw [e]
  have r : rField w n f = up2 (up2 (up2 (up2 (rAdd w n f) 40 5 (w 21 (w 33 n * 4 + f))) 40 6 (w 35 n * fac w (w 33 n * 4 + f))) 40 7 (n * 6 + w 37 n)) 40 4 0 := by unfold rField; rw [if_neg hk]
  have g5 : rField w n f 40 5 = w 21 (w 33 n * 4 + f) := by rw [r]; rfl
  have g6 : rField w n f 40 6 = w 35 n * fac w (w 33 n * 4 + f) := by rw [r]; rfl
  have g3 : rField w n f 40 3 = lv := by rw [r]; exact hlv
  have g7 : rField w n f 32 7 = w 32 7 := by rw [r]; rfl
  have g33 : rField w n f 33 = w 33 := by rw [r]; rfl
  have g34 : rField w n f 34 = w 34 := by rw [r]; rfl
  have g35 : rField w n f 35 = w 35 := by rw [r]; rfl
  have g37 : rField w n f 37 = va_up (w 37) n (w 37 n + 1) := by rw [r]; rfl
  have g38 : rField w n f 38 = va_up (w 38) (n * 6 + w 37 n) f := by rw [r]; rfl
  have g39 : rField w n f 39 = va_up (w 39) (n * 6 + w 37 n) N1 := by rw [r]; rfl
  have g41 : rField w n f 41 = w 41 := by rw [r]; rfl
  generalize hnd : w 32 7 = nd at *
  refine ⟨?_, fun m hm => ?_, fun l hl => ?_⟩
  · show nd + 1 = rField w n f 32 7 + 1
    rw [g7]
  · have hm : m < rField w n f 32 7 + 1 := hm
    rw [g7] at hm
    show (va_up (v 87) nd (w 21 (w 33 n * 4 + f)) m = va_up (rField w n f 33) (rField w n f 32 7) (rField w n f 40 5) m ∧ va_up (v 88) nd q m = va_up (rField w n f 34) (rField w n f 32 7) q m ∧ va_up (va_up (v 89) n (w 37 n + 1)) nd 0 m = va_up (rField w n f 37) (rField w n f 32 7) 0 m ∧ va_up (τ 92) nd (τ 92 n * F) m = lN (va_up (rField w n f 35) (rField w n f 32 7) (rField w n f 40 6) m)) ∧ ∀ i, i < va_up (rField w n f 37) (rField w n f 32 7) 0 m → va_up (v 90) (n * 6 + w 37 n) f (m * 6 + i) = rField w n f 38 (m * 6 + i) ∧ va_up (va_up (v 91) (n * 6 + w 37 n) N1) (n * 6 + w 37 n) nd (m * 6 + i) = va_up (rField w n f 39) (n * 6 + w 37 n) nd (m * 6 + i)
    rw [g7, g5, g6, g33, g34, g35, g37, g38, g39]
    by_cases z : m = nd
    · subst z
      rw [va_up_self, va_up_self, va_up_self, va_up_self, va_up_self, va_up_self, va_up_self, va_up_self]
      exact ⟨⟨rfl, rfl, rfl, hF⟩, fun i hi => absurd hi (Nat.not_lt_zero i)⟩
    · obtain ⟨⟨a1, a2, a3, a4⟩, a5⟩ := h2 m (by omega)
      rw [va_up_ne _ _ z, va_up_ne _ _ z, va_up_ne _ _ z, va_up_ne _ _ z, va_up_ne _ _ z, va_up_ne _ _ z, va_up_ne _ _ z, va_up_ne _ _ z]
      refine ⟨⟨a1, a2, ?_, a4⟩, fun i hi => ?_⟩
      · unfold va_up
        split
        · rfl
        · exact a3
      · by_cases y : m * 6 + i = n * 6 + w 37 n
        · rw [y, va_up_self, va_up_self, va_up_self, va_up_self]; exact ⟨rfl, rfl⟩
        · rw [va_up_ne _ _ y, va_up_ne _ _ y, va_up_ne _ _ y, va_up_ne _ _ y, va_up_ne _ _ y, va_up_ne _ _ y]
          refine a5 i ?_
          unfold va_up at hi
          split at hi
          · rename_i e2; subst e2
            rcases Nat.lt_or_ge i (w 37 m) with x | x
            · exact x
            · exact absurd (show m * 6 + i = m * 6 + w 37 m by omega) y
          · exact hi
  · have hl : l < rField w n f 40 3 + 1 := hl
    show va_up (v 93) lv nd l = va_up (rField w n f 41) (rField w n f 40 3) (rField w n f 32 7) l
    rw [g3, g7, g41]
    rw [g3] at hl
    unfold va_up
    split
    · rfl
    · exact h3 l (by omega)
theorem rd_in {w u : WW} {m q : Nat} (h : w 31 q ≠ 32) (e : rtk w q (w 31 q) = .inl u) : rd (m + 1) q w = rd m (q + 1) u := by
  rw [rd_s, if_neg h, e]
theorem rd_er {w : WW} {m q c : Nat} (h : w 31 q ≠ 32) (e : rtk w q (w 31 q) = .inr c) : rd (m + 1) q w = (w, 1 + 4 * q + c) := by
  rw [rd_s, if_neg h, e]
theorem nw_beg (v : WW) (nd dp p x : Nat) : m_beg (nw v) nd dp p (nI x) = nw (up2 (up2 (up2 (up2 (up2 (up2 v 87 nd x) 88 nd p) 89 nd 0) 93 dp nd) 57 35 (nd + 1)) 57 33 (p + 1)) := by
  unfold m_beg
  rw [nw_up (n := x) rfl, nw_up (n := p) rfl, nw_up (v := 0) (n := 0) rfl, nw_up (n := nd) rfl, nw_up (n := nd + 1) (nI_1 _), nw_up (n := p + 1) (nI_1 _)]
theorem rField_40 {w : WW} {n f : Nat} (hk : w 20 (w 33 n * 4 + f) ≠ 0) : rField w n f 40 4 = 0 ∧ rField w n f 40 3 = w 40 3 ∧ rField w n f 32 7 = w 32 7 ∧ rField w n f 31 = w 31 := by
  unfold rField
  rw [if_neg hk]
  exact ⟨rfl, rfl, rfl, rfl⟩
/-- how the model's reading ends -/
def OUT (v0 : WW) (τ0 : Nat → Nat → Int64) (r : WW × Nat) (v : WW) (τ : Nat → Nat → Int64) : Prop := v 57 34 = r.2 ∧ FRV v0 v τ0 τ ∧ (r.2 = 0 → RMd r.1 v τ)
theorem nI_34 {a : Nat} (h : a = 0) : nI a = 0 := by rw [h]; rfl
theorem lN_1' : (1 : Int32).toInt64 = lN 1 := rfl
theorem nodeStep {d ty len n f q Q2 nn : Nat} {v0 w v : WW} {τ0 τ : Nat → Nat → Int64} {t : Int32} {F : Int64} {Post : Option Value → Sto → Prop} (hI : RIn w ty) (hI1 : RIn (rField w n f) ty) (f1 : FRD w (rField w n f)) (hM : RMd w v τ) (hV : FRV v0 v τ0 τ) (hT : TPR w v) (hTc : TPc w) (hlen : w 30 1 = len) (hK : v 72 = w 20 ∧ v 73 = w 21 ∧ v 74 = w 22) (h34 : v 57 34 = 0) (hn : n < w 32 7) (h6 : ∀ m, m < w 32 7 → w 37 m ≤ 6) (hk0 : w 20 (w 33 n * 4 + f) ≠ 0) (hw : w 37 n < 6) (hnd : w 32 7 < 20) (hdp : w 40 3 < 5) (hq : q < len) (hqQ : q + 1 ≤ Q2) (hQ2 : Q2 < len) (n32 : w 31 Q2 ≠ 32) (hb2 : w 31 Q2 = 123) (hF : τ 92 n * F = lN (w 35 n * fac w (w 33 n * 4 + f))) (h21 : nI (v 73 (w 33 n * 4 + f)) = nI (w 21 (w 33 n * 4 + f)))
    (ih : ∀ (p : Nat) (w v : WW) (τ : Nat → Nat → Int64), RIn w ty → w 40 4 ≠ 0 → RMd w v τ → FRV v0 v τ0 τ → TPR w v → TPc w → w 30 1 = len → (v 72 = w 20 ∧ v 73 = w 21 ∧ v 74 = w 22) → v 57 33 = p → v 57 34 = 0 → p ≤ len → (∀ v' τ', OUT v0 τ0 (rd (len - p) p w) v' τ' → Post none (stt (nw v') τ')) → len - p < nn → RU_97 (d + 2) (0, 0) Post 43 [(2, .int (nI (w 40 3))), (0, .ref 57), (1, .int t)] [] (stt (nw v) τ) 0 0)
    (hk : ∀ v' τ', OUT v0 τ0 (rd (len - Q2) Q2 (rField w n f)) v' τ' → Post none (stt (nw v') τ')) (hms : len - q < nn + 1) : RU_97 (d + 2) (0, 0) Post 43 [(2, .int (nI (w 40 3) + 1)), (0, .ref 57), (1, .int t)] [] (stt (m_beg (up2 (up2 (up2 (up2 (up2 (up2 (up2 (nw v) 57 33 (nI q)) 90 (n * 6 + w 37 n) (nI f)) 91 (n * 6 + w 37 n) (-1)) 89 n (nI (w 37 n) + 1)) 57 33 (nI q + 1)) 57 33 (nI Q2)) 91 (n * 6 + w 37 n) (nI (w 32 7))) (w 32 7) (w 40 3) Q2 (nw v 73 (w 33 n * 4 + f))) (up2 τ 92 (w 32 7) (τ 92 n * F))) 0 0 := by
  have g := rField_40 hk0
  have hin : rtk (rField w n f) Q2 (rField w n f 31 Q2) = .inl (rNode (rField w n f) Q2) := by
    unfold rtk
    rw [if_pos g.1, g.2.2.2, if_pos hb2, if_neg (by rw [g.2.1, g.2.2.1]; omega)]
  have k2 := rtk_ok hI1 hin
  rw [show len - Q2 = (len - (Q2 + 1)) + 1 by omega, rd_in (by rw [g.2.2.2]; exact n32) hin] at hk
  rw [nw_up (n := q) rfl, nw_up (n := f) rfl, nw_up (v := -1) (n := N1) rfl, nw_up (n := w 37 n + 1) (nI_1 _), nw_up (n := q + 1) (nI_1 _), nw_up (n := Q2) rfl, nw_up (n := w 32 7) rfl, show nw v 73 (w 33 n * 4 + f) = nI (w 21 (w 33 n * 4 + f)) from h21, nw_beg, nI_1]
  have ff := f1.tr k2.2
  have e43 : rNode (rField w n f) Q2 40 3 = w 40 3 + 1 := by
    unfold rNode
    split
    · show rField w n f 40 3 + 1 = _; rw [g.2.1]
    · show rField w n f 40 3 + 1 = _; rw [g.2.1]
  have e44 : rNode (rField w n f) Q2 40 4 = 1 := by unfold rNode; rfl
  have hM3 := hM.node (q := Q2) (F := F) rfl hn h6 hk0 hw hnd hF
  have hM4 : RMd (rNode (rField w n f) Q2) (up2 (up2 (up2 (up2 (up2 (up2 (up2 (up2 (up2 (up2 (up2 (up2 (up2 v 57 33 q) 90 (n * 6 + w 37 n) f) 91 (n * 6 + w 37 n) N1) 89 n (w 37 n + 1)) 57 33 (q + 1)) 57 33 Q2) 91 (n * 6 + w 37 n) (w 32 7)) 87 (w 32 7) (w 21 (w 33 n * 4 + f))) 88 (w 32 7) Q2) 89 (w 32 7) 0) 93 (w 40 3) (w 32 7)) 57 35 (w 32 7 + 1)) 57 33 (Q2 + 1)) (up2 τ 92 (w 32 7) (τ 92 n * F)) := hM3
  rw [← e43]
  exact ih (Q2 + 1) (rNode (rField w n f) Q2) _ _ k2.1 (by rw [e44]; decide) hM4 (((((((((((((hV.up (Or.inr (by decide))).up (Or.inl (by decide))).up (Or.inl (by decide))).up (Or.inl (by decide))).up (Or.inr (by decide))).up (Or.inr (by decide))).up (Or.inl (by decide))).up (Or.inl (by decide))).up (Or.inl (by decide))).up (Or.inl (by decide))).up (Or.inl (by decide))).up (Or.inr (by decide))).up (Or.inr (by decide))).upt (by unfold TPR; rw [ff.1 30 (by decide), ff.1 31 (by decide)]; exact hT) (hTc.fr ff) (by rw [ff.1 30 (by decide)]; exact hlen) (by rw [ff.1 20 (by decide), ff.1 21 (by decide), ff.1 22 (by decide)]; exact hK) rfl h34 (by omega) hk (by omega)
theorem ml_97 {d ty len : Nat} {v0 : WW} {τ0 : Nat → Nat → Int64} {t : Int32} {Post : Option Value → Sto → Prop} (hlen2 : len ≤ 200) : ∀ (nn p : Nat) (w v : WW) (τ : Nat → Nat → Int64), RIn w ty → w 40 4 ≠ 0 → RMd w v τ → FRV v0 v τ0 τ → TPR w v → TPc w → w 30 1 = len → (v 72 = w 20 ∧ v 73 = w 21 ∧ v 74 = w 22) → v 57 33 = p → v 57 34 = 0 → p ≤ len → (∀ v' τ', OUT v0 τ0 (rd (len - p) p w) v' τ' → Post none (stt (nw v') τ')) → len - p < nn → RU_97 (d + 2) (0, 0) Post 43 [(2, .int (nI (w 40 3))), (0, .ref 57), (1, .int t)] [] (stt (nw v) τ) 0 0 := by
  intro nn
  induction nn with
  | zero => intro p w v τ _ _ _ _ _ _ _ _ _ _ _ _ hms; exact absurd hms (by omega)
  | succ nn ih =>
    intro p w v τ hI h40 hM hV hT hTc hlen hK h33 h34 hp hk hms
    have hb := nb_ok w (len - p) p
    have hr := rd_nb w (len - p) p
    rw [show p + (len - p) = len by omega] at hb hr
    generalize nb w (len - p) p = q at *
    rw [hr] at hk
    have hsp : ∀ i, i < 200 → (nw v 86 i = 32 ↔ w 31 i = 32) := fun i hi => (hT.2 i hi).2
    have hbl : ∀ i, p ≤ i → i < q → nw v 86 i = 32 := fun i i1 i2 => (hsp i (by omega)).mpr (hb.2.2.1 i i1 i2)
    have hne : q < len → ¬ nw v 86 q = 32 := fun z y => hb.2.2.2 z ((hsp q (by omega)).mp y)
    obtain ⟨hS, hO, hcase⟩ := id hI
    have hO1 := hO.1
    rcases hcase with ⟨h4, hl, hN, h0, hn0⟩ | ⟨h4, hl, hN, h0, hn0⟩ | ⟨h4, _⟩
    · -- a field is wanted
      obtain ⟨a1, a2, a3, a4, a5, a6⟩ := id hN
      have hop := hO.2 (w 40 3 - 1) (by omega)
      have e93 := hM.2.2 (w 40 3 - 1) (by omega)
      generalize hn' : w 41 (w 40 3 - 1) = n at *
      have nn1 := (a2 n hop.1).1
      have tn := (a2 n hop.1).2
      have mn := hM.2.1 n hop.1
      have h6 : ∀ m, m < w 32 7 → w 37 m ≤ 6 := fun m hm => (a2 m hm).1.2.2.2
      have nb2 := nb_ok w (len - (q + 1)) (q + 1)
      have rr : ∀ u, FRD w u → q < len → rd (len - (q + 1)) (q + 1) u = rd (len - nb w (len - (q + 1)) (q + 1)) (nb w (len - (q + 1)) (q + 1)) u := by
        intro u hu hq
        have e31 := hu.1 31 (by decide)
        have e : ∀ m p, nb u m p = nb w m p := by
          intro m
          induction m with
          | zero => intro p; rfl
          | succ m ih2 => intro p; unfold nb; rw [e31, ih2]
        rw [rd_nb u (len - (q + 1)) (q + 1), e, show q + 1 + (len - (q + 1)) = len by omega]
      generalize hq2 : nb w (len - (q + 1)) (q + 1) = q2 at *
      have er : ∀ b, rtk w q b = (if b = 125 then (if w 37 n = 0 then .inr 0 else .inl (rClose w)) else if 48 ≤ b ∧ b ≤ 51 then (if 6 ≤ w 37 n then .inr 2 else .inl (rField w n (b - 48))) else .inr 0) := by
        intro b
        unfold rtk
        rw [if_neg (by omega), if_neg (by omega), hn']
      have w31 : q < len → w 31 q < 256 := fun hq => hTc.2 q (by omega)
      -- the two bytes
      have hbv : ∃ bv, bv < 256 ∧ (q < len → w 31 q = bv) := by
        by_cases z : q < len
        · exact ⟨w 31 q, w31 z, fun _ => rfl⟩
        · exact ⟨0, by decide, fun y => absurd y z⟩
      obtain ⟨bv, bv2, bvq⟩ := hbv
      have hq2' : ∃ Q2, Q2 ≤ len ∧ (q < len → Q2 = q2) ∧ (¬ q < len → Q2 = len) := by
        by_cases z : q < len
        · exact ⟨q2, by have := nb2.2.1; omega, fun _ => rfl, fun y => absurd z y⟩
        · exact ⟨len, Nat.le_refl _, fun y => absurd y z, fun _ => rfl⟩
      obtain ⟨Q2, Q21, Q22, Q23⟩ := hq2'
      have hb2 : ∃ b2, b2 < 256 ∧ (q < len → Q2 < len → w 31 Q2 = b2) := by
        by_cases z : Q2 < len
        · exact ⟨w 31 Q2, hTc.2 Q2 (by omega), fun _ _ => rfl⟩
        · exact ⟨0, by decide, fun _ y => absurd y z⟩
      obtain ⟨b2, b22, b2q⟩ := hb2
      have kdP : 48 ≤ bv → bv ≤ 51 → w 33 n * 4 + (bv - 48) < 24 := fun _ _ => by omega
      have hkd : ∃ kd, kd < 3 ∧ (48 ≤ bv → bv ≤ 51 → w 20 (w 33 n * 4 + (bv - 48)) = kd) := by
        by_cases z : 48 ≤ bv ∧ bv ≤ 51
        · exact ⟨_, (hS.2.1 _ (kdP z.1 z.2)).1, fun _ _ => rfl⟩
        · exact ⟨0, by decide, fun y1 y2 => absurd ⟨y1, y2⟩ z⟩
      obtain ⟨kd, kd3, kdq⟩ := hkd
      have fault : ∀ f, 0 < f → (∀ u τ', u 57 34 = f → FRV v0 u τ0 τ' → rd (len - q) q w = ((rd (len - q) q w).1, f) → Post none (stt (nw u) τ')) := by
        intro f hf u τ' hu hfu he
        refine hk u τ' ⟨by rw [he]; exact hu, hfu, fun z => ?_⟩
        rw [he] at z
        exact absurd (show f = 0 from z) (by omega)
      refine s_97r (σ := nw v) (dp := w 40 3) (n := n) (w := w 37 n) (t := w 33 n) (kd := kd) (nd := w 32 7) (p := p) (q := q) (q2 := Q2) (bv := bv) (b2 := b2) (len := len) (nI_34 h34) hl hO1 (congrArg nI e93) (by omega) (congrArg nI h33) (congrArg nI (hT.1.trans hlen)) hlen2 hb.1 hb.2.1 hbl hne (fun z => by rw [← bvq z]; exact (hT.2 q (by omega)).1) bv2 (congrArg nI mn.1.2.2.1) nn1.2.2.2 (congrArg nI mn.1.1) nn1.1 (fun y1 y2 => by show nI (v 72 _) = _; rw [hK.1, kdq y1 y2]) kd3 (congrArg nI hM.1) a1 (fun z => by rw [Q22 z]; exact nb2.1) Q21 (fun z i i1 i2 => (hsp i (by omega)).mpr (nb2.2.2.1 i i1 (by rw [← Q22 z]; exact i2))) (fun z y => ?_) (fun z => ?_) b22 (fun c => ?_) (fun c1 c2 c3 => ?_) (fun c1 c2 => ?_) (fun c1 c2 c3 c4 => ?_) (fun c1 c2 c3 c4 c5 => ?_) (fun c1 c2 c3 c4 c5 c6 => ?_) (fun c1 c2 c3 c4 c5 c6 c7 c8 => ?_) (fun c1 c2 c3 c4 c5 c6 c7 c8 => ?_)
      · by_cases x : q < len
        · have y := (hsp Q2 (by omega)).mp y
          rw [Q22 x] at y z
          exact nb2.2.2.2 (by omega) y
        · have := Q23 x
          omega
      · by_cases x : q < len
        · rw [← b2q x z]
          exact (hT.2 Q2 (by omega)).1
        · have := Q23 x
          omega
      · rw [nw_up (n := q) rfl, nw_up (n := 1 + 4 * q + 0) rfl]
        refine fault (1 + 4 * q + 0) (by omega) _ τ rfl ((hV.up (Or.inr (by decide))).up (Or.inr (by decide))) ?_
        by_cases x : q < len
        · rw [show len - q = (len - (q + 1)) + 1 by omega, rd_er (c := 0) (hb.2.2.2 x) ?_]
          rw [bvq x, er]
          rcases c with c | c | c
          · omega
          · rw [if_pos c.1, if_pos c.2]
          · rw [if_neg c.1, if_neg c.2]
        · rw [show len - q = 0 by omega]
          show (w, if w 40 4 = 2 then 0 else 1 + 4 * q) = (w, _)
          rw [if_neg (by omega)]
          rfl
      · rw [nw_up (n := q) rfl, nw_up (n := 1 + 4 * q + 2) rfl]
        refine fault (1 + 4 * q + 2) (by omega) _ τ rfl ((hV.up (Or.inr (by decide))).up (Or.inr (by decide))) ?_
        rw [show len - q = (len - (q + 1)) + 1 by omega, rd_er (c := 2) (hb.2.2.2 c1) ?_]
        rw [bvq c1, er, if_neg (by omega), if_pos c2, if_pos (by omega)]
      · have hin : rtk w q (w 31 q) = .inl (rClose w) := by rw [bvq c1.1, er, if_pos c1.2, if_neg (by omega)]
        have hk2 := rtk_ok hI hin
        rw [show len - q = (len - (q + 1)) + 1 by omega, rd_in (hb.2.2.2 c1.1) hin] at hk
        rw [nw_up (n := q) rfl, nw_up (n := q + 1) (nI_1 _), up2_up2]
        exact ih (q + 1) (rClose w) (up2 v 57 33 (q + 1)) τ hk2.1 (by show (if w 40 3 = 1 then 2 else 1) ≠ 0; split <;> omega) (hM.close q) (hV.up (Or.inr (by decide))) hT (hTc.fr hk2.2) hlen hK rfl h34 (by omega) hk (by omega)
      · have hin : rtk w q (w 31 q) = .inl (rField w n (bv - 48)) := by rw [bvq c1, er, if_neg (by omega), if_pos c2, if_neg (by omega)]
        have hk2 := rtk_ok hI hin
        have hk0 : w 20 (w 33 n * 4 + (bv - 48)) = 0 := by rw [kdq c2.1 c2.2]; exact c4
        rw [show len - q = (len - (q + 1)) + 1 by omega, rd_in (hb.2.2.2 c1) hin] at hk
        rw [nw_up (n := q) rfl, nw_up (n := bv - 48) rfl, nw_up (v := -1) (n := N1) rfl, nw_up (n := w 37 n + 1) (nI_1 _), nw_up (n := q + 1) (nI_1 _)]
        have e40 : rField w n (bv - 48) 40 = w 40 := by unfold rField; rw [if_pos hk0]; rfl
        have f := hk2.2
        have hM2 : RMd (rField w n (bv - 48)) (up2 (up2 (up2 (up2 (up2 v 57 33 q) 90 (n * 6 + w 37 n) (bv - 48)) 91 (n * 6 + w 37 n) N1) 89 n (w 37 n + 1)) 57 33 (q + 1)) τ := RMd.field (v := up2 v 57 33 q) hM hop.1 h6 hk0 c3
        rw [← e40]
        exact ih (q + 1) (rField w n (bv - 48)) _ τ hk2.1 (by rw [e40]; omega) hM2 (((((hV.up (Or.inr (by decide))).up (Or.inl (by decide))).up (Or.inl (by decide))).up (Or.inl (by decide))).up (Or.inr (by decide))) (by unfold TPR; rw [f.1 30 (by decide), f.1 31 (by decide)]; exact hT) (hTc.fr f) (by rw [f.1 30 (by decide)]; exact hlen) (by rw [f.1 20 (by decide), f.1 21 (by decide), f.1 22 (by decide)]; exact hK) rfl h34 (by omega) hk (by omega)
      · have hin : rtk w q (w 31 q) = .inl (rField w n (bv - 48)) := by rw [bvq c1, er, if_neg (by omega), if_pos c2, if_neg (by omega)]
        have hk2 := rtk_ok hI hin
        have hk0 : w 20 (w 33 n * 4 + (bv - 48)) ≠ 0 := by rw [kdq c2.1 c2.2]; exact c4
        have g := rField_40 hk0
        rw [nw_up (n := q) rfl, nw_up (n := bv - 48) rfl, nw_up (v := -1) (n := N1) rfl, nw_up (n := w 37 n + 1) (nI_1 _), nw_up (n := q + 1) (nI_1 _), nw_up (n := Q2) rfl, nw_up (n := 1 + 4 * Q2 + 0) rfl]
        refine fault (1 + 4 * Q2 + 0) (by omega) _ τ rfl (((((((hV.up (Or.inr (by decide))).up (Or.inl (by decide))).up (Or.inl (by decide))).up (Or.inl (by decide))).up (Or.inr (by decide))).up (Or.inr (by decide))).up (Or.inr (by decide))) ?_
        rw [show len - q = (len - (q + 1)) + 1 by omega, rd_in (hb.2.2.2 c1) hin, rr _ hk2.2 c1, ← Q22 c1]
        by_cases x : Q2 < len
        · have hc : b2 ≠ 123 := by rcases c5 with c5 | c5; omega; exact c5
          have n32 : w 31 Q2 ≠ 32 := by rw [Q22 c1]; rw [Q22 c1] at x; exact nb2.2.2.2 (by omega)
          rw [show len - Q2 = (len - (Q2 + 1)) + 1 by omega, rd_er (c := 0) (by rw [g.2.2.2]; exact n32) ?_]
          rw [g.2.2.2, b2q c1 x]
          unfold rtk
          rw [if_pos g.1, if_neg hc]
        · rw [show len - Q2 = 0 by omega]
          show (_, if rField w n (bv - 48) 40 4 = 2 then 0 else 1 + 4 * Q2) = (_, _)
          rw [g.1, if_neg (by decide)]
          rfl
      · have hin : rtk w q (w 31 q) = .inl (rField w n (bv - 48)) := by rw [bvq c1, er, if_neg (by omega), if_pos c2, if_neg (by omega)]
        have hk2 := rtk_ok hI hin
        have hk0 : w 20 (w 33 n * 4 + (bv - 48)) ≠ 0 := by rw [kdq c2.1 c2.2]; exact c4
        have g := rField_40 hk0
        rw [nw_up (n := q) rfl, nw_up (n := bv - 48) rfl, nw_up (v := -1) (n := N1) rfl, nw_up (n := w 37 n + 1) (nI_1 _), nw_up (n := q + 1) (nI_1 _), nw_up (n := Q2) rfl, nw_up (n := w 32 7) rfl, nw_up (n := 1 + 4 * Q2 + 1) rfl]
        refine fault (1 + 4 * Q2 + 1) (by omega) _ τ rfl ((((((((hV.up (Or.inr (by decide))).up (Or.inl (by decide))).up (Or.inl (by decide))).up (Or.inl (by decide))).up (Or.inr (by decide))).up (Or.inr (by decide))).up (Or.inl (by decide))).up (Or.inr (by decide))) ?_
        have n32 : w 31 Q2 ≠ 32 := by have x := c5.1; rw [Q22 c1] at x; rw [Q22 c1]; exact nb2.2.2.2 (by omega)
        rw [show len - q = (len - (q + 1)) + 1 by omega, rd_in (hb.2.2.2 c1) hin, rr _ hk2.2 c1, ← Q22 c1, show len - Q2 = (len - (Q2 + 1)) + 1 by omega, rd_er (c := 1) (by rw [g.2.2.2]; exact n32) ?_]
        rw [g.2.2.2, b2q c1 c5.1]
        unfold rtk
        rw [if_pos g.1, if_pos c5.2, if_pos (by rw [g.2.1, g.2.2.1]; omega)]
      · have hin : rtk w q (w 31 q) = .inl (rField w n (bv - 48)) := by rw [bvq c1, er, if_neg (by omega), if_pos c2, if_neg (by omega)]
        have hk2 := rtk_ok hI hin
        have hkd2 : w 20 (w 33 n * 4 + (bv - 48)) = 2 := by rw [kdq c2.1 c2.2]; exact c6
        exact nodeStep hI hk2.1 hk2.2 (F := (nI (v 74 (w 33 n * 4 + (bv - 48)))).toInt64) hM hV hT hTc hlen hK h34 hop.1 h6 (by omega) c3 c7 c8 c1 (by rw [← Q22 c1] at nb2; exact nb2.1) c5.1 (by rw [Q22 c1]; have x := c5.1; rw [Q22 c1] at x; exact nb2.2.2.2 (by omega)) (by rw [b2q c1 c5.1]; exact c5.2) (by rw [mn.1.2.2.2, hK.2.2, nI_l (by have := (hS.2.1 _ (kdP c2.1 c2.2)).2.2; omega), lN_mul]; unfold fac; rw [if_pos hkd2]) (by rw [hK.2.1]) ih (by rw [show len - q = (len - (q + 1)) + 1 by omega, rd_in (hb.2.2.2 c1) hin, rr _ hk2.2 c1, ← Q22 c1] at hk; exact hk) (by omega)
      · have hin : rtk w q (w 31 q) = .inl (rField w n (bv - 48)) := by rw [bvq c1, er, if_neg (by omega), if_pos c2, if_neg (by omega)]
        have hk2 := rtk_ok hI hin
        have hkd2 : ¬ w 20 (w 33 n * 4 + (bv - 48)) = 2 := by rw [kdq c2.1 c2.2]; exact c6
        exact nodeStep hI hk2.1 hk2.2 (F := (1 : Int32).toInt64) hM hV hT hTc hlen hK h34 hop.1 h6 (by rw [kdq c2.1 c2.2]; exact c4) c3 c7 c8 c1 (by rw [← Q22 c1] at nb2; exact nb2.1) c5.1 (by rw [Q22 c1]; have x := c5.1; rw [Q22 c1] at x; exact nb2.2.2.2 (by omega)) (by rw [b2q c1 c5.1]; exact c5.2) (by rw [mn.1.2.2.2, lN_1', lN_mul]; unfold fac; rw [if_neg hkd2]) (by rw [hK.2.1]) ih (by rw [show len - q = (len - (q + 1)) + 1 by omega, rd_in (hb.2.2.2 c1) hin, rr _ hk2.2 c1, ← Q22 c1] at hk; exact hk) (by omega)
    · rw [hl]
      have hbv : ∃ bv, bv < 256 ∧ (q < len → w 31 q = bv) := by
        by_cases z : q < len
        · exact ⟨w 31 q, hTc.2 q (by omega), fun _ => rfl⟩
        · exact ⟨0, by decide, fun y => absurd y z⟩
      obtain ⟨bv, bv2, bvq⟩ := hbv
      refine s_97e (σ := nw v) (p := p) (q := q) (bv := bv) (len := len) (nI_34 h34) (congrArg nI h33) (congrArg nI (hT.1.trans hlen)) hlen2 hb.1 hb.2.1 hbl hne (fun z => by rw [← bvq z]; exact (hT.2 q (by omega)).1) bv2 (fun z => ?_) (fun z => ?_)
      · rw [nw_up (n := q) rfl]
        rw [show len - q = 0 by omega] at hk
        refine hk _ τ ⟨?_, hV.up (Or.inr (by decide)), fun _ => hM⟩
        show v 57 34 = if w 40 4 = 2 then 0 else 1 + 4 * q
        rw [if_pos h4]; exact h34
      · rw [nw_up (n := q) rfl, nw_up (n := 1 + 4 * q + 0) rfl]
        have e : rd (len - q) q w = (w, 1 + 4 * q + 0) := by
          rw [show len - q = (len - (q + 1)) + 1 by omega, rd_er (c := 0) (hb.2.2.2 z) ?_]
          unfold rtk
          rw [if_neg (by omega), if_pos h4]
        refine hk _ τ ⟨by rw [e]; rfl, (hV.up (Or.inr (by decide))).up (Or.inr (by decide)), fun y => ?_⟩
        rw [e] at y
        exact absurd (show 1 + 4 * q + 0 = 0 from y) (by omega)
    · exact absurd h4 h40
theorem vM0 (v : WW) : m_rd0 (nw v) = nw (up2 (up2 (up2 v 57 33 0) 57 34 0) 57 35 0) := by
  unfold m_rd0
  rw [nw_up (v := 0) (n := 0) rfl, nw_up (v := 0) (n := 0) rfl, nw_up (v := 0) (n := 0) rfl]
/-- both read alike -/
theorem m_97 {d ty : Nat} {w v : WW} {τ : Nat → Nat → Int64} (hS : SO w) (hTc : TPc w) (hT : TPR w v) (hty : ty < 6) (hK : v 72 = w 20 ∧ v 73 = w 21 ∧ v 74 = w 22) {Post : Option Value → Sto → Prop} (hp : ∀ v' τ', OUT v τ (aRead w ty) v' τ' → Post none (stt (nw v') τ')) : Ex (d + 3) 97 [.ref 57, .int (nI ty)] (stt (nw v) τ) 0 0 Post := by
  have hb := nb_ok (rd0 w ty) (w 30 1) 0
  have hr := rd_nb (rd0 w ty) (w 30 1) 0
  have f0 := rd0_fr w ty
  have e31 : rd0 w ty 31 = w 31 := rfl
  rw [Nat.zero_add] at hb hr
  generalize hq : nb (rd0 w ty) (w 30 1) 0 = q at *
  rw [e31] at hb
  have hlen2 := hTc.1
  have hp2 : ∀ v' τ', OUT v τ (rd (w 30 1 - q) q (rd0 w ty)) v' τ' → Post none (stt (nw v') τ') := fun v' τ' h => hp v' τ' (by unfold aRead; rw [hr]; exact h)
  have hbv : ∃ bv, bv < 256 ∧ (q < w 30 1 → w 31 q = bv) := by
    by_cases z : q < w 30 1
    · exact ⟨w 31 q, hTc.2 q (by omega), fun _ => rfl⟩
    · exact ⟨0, by decide, fun y => absurd y z⟩
  obtain ⟨bv, bv2, bvq⟩ := hbv
  have hsp : ∀ i, i < 200 → (nw v 86 i = 32 ↔ w 31 i = 32) := fun i hi => (hT.2 i hi).2
  refine x_97 (d := d) (σ := nw v) (q := q) (bv := bv) (len := w 30 1) 0 rfl (congrArg nI hT.1) hlen2 (Nat.zero_le _) hb.2.1 (fun i _ i2 => (hsp i (by omega)).mpr (hb.2.2.1 i (Nat.zero_le _) i2)) (fun z y => hb.2.2.2 z ((hsp q (by omega)).mp y)) (fun z => by rw [← bvq z]; exact (hT.2 q (by omega)).1) bv2 (fun c => ?_) (fun c => ?_)
  · rw [vM0, nw_up (n := q) rfl, nw_up (n := 1 + 4 * q + 0) rfl]
    have e : rd (w 30 1 - q) q (rd0 w ty) = (rd0 w ty, 1 + 4 * q + 0) := by
      by_cases z : q < w 30 1
      · rw [show w 30 1 - q = (w 30 1 - (q + 1)) + 1 by omega, rd_er (w := rd0 w ty) (c := 0) (hb.2.2.2 z) ?_]
        rw [e31, bvq z]
        unfold rtk
        rw [if_pos (show rd0 w ty 40 4 = 0 from rfl), if_neg (by rcases c with c | c; omega; exact c)]
      · rw [show w 30 1 - q = 0 by omega]
        rfl
    refine hp2 _ _ ⟨by rw [e]; rfl, ((((FRV.rf v τ).up (Or.inr (by decide))).up (Or.inr (by decide))).up (Or.inr (by decide))).up (Or.inr (by decide)) |>.up (Or.inr (by decide)), fun y => ?_⟩
    rw [e] at y
    exact absurd (show 1 + 4 * q + 0 = 0 from y) (by omega)
  · have hin : rtk (rd0 w ty) q (rd0 w ty 31 q) = .inl (rNode (rd0 w ty) q) := by
      rw [e31, bvq c.1]
      unfold rtk
      rw [if_pos (show rd0 w ty 40 4 = 0 from rfl), if_pos c.2, if_neg (show ¬ (20 ≤ rd0 w ty 32 7 ∨ 5 ≤ rd0 w ty 40 3) from (show ¬ (20 ≤ 0 ∨ 5 ≤ 0) by decide))]
    have k2 := rtk_ok (rd0_in hS hty) hin
    have e : rd (w 30 1 - q) q (rd0 w ty) = rd (w 30 1 - (q + 1)) (q + 1) (rNode (rd0 w ty) q) := by
      rw [show w 30 1 - q = (w 30 1 - (q + 1)) + 1 by omega, rd_in (w := rd0 w ty) (hb.2.2.2 c.1) hin]
    rw [e] at hp2
    have ff := f0.tr k2.2
    have er : rNode (rd0 w ty) q = up2 (rOpen (rd0 w ty) q) 40 4 1 := by unfold rNode; rw [if_pos (show rd0 w ty 40 7 = N1 from rfl)]
    have hM : RMd (rNode (rd0 w ty) q) (up2 (up2 (up2 (up2 (up2 (up2 (up2 (up2 (up2 (up2 v 57 33 0) 57 34 0) 57 35 0) 57 33 q) 87 0 ty) 88 0 q) 89 0 0) 93 0 0) 57 35 (0 + 1)) 57 33 (q + 1)) (up2 τ 92 0 ((1 : Int32).toInt64)) := by
      rw [er]
      refine ⟨rfl, fun n hn => ?_, fun l hl => ?_⟩
      · have hn : n < 1 := hn
        have : n = 0 := by omega
        subst this
        exact ⟨⟨rfl, rfl, rfl, rfl⟩, fun i hi => absurd (show i < 0 from hi) (Nat.not_lt_zero i)⟩
      · have hl : l < 1 := hl
        have : l = 0 := by omega
        subst this
        rfl
    rw [vM0, nw_up (n := q) rfl, nw_beg]
    have e43 : rNode (rd0 w ty) q 40 3 = 1 := by rw [er]; rfl
    have e44 : rNode (rd0 w ty) q 40 4 = 1 := by rw [er]; rfl
    have key := ml_97 (d := d) (ty := ty) (len := w 30 1) (v0 := v) (τ0 := τ) (t := nI ty) (Post := Post) hlen2 (w 30 1 + 1) (q + 1) (rNode (rd0 w ty) q) _ _ k2.1 (by rw [e44]; decide) hM (((((((((((FRV.rf v τ).up (Or.inr (by decide))).up (Or.inr (by decide))).up (Or.inr (by decide))).up (Or.inr (by decide))).up (Or.inl (by decide))).up (Or.inl (by decide))).up (Or.inl (by decide))).up (Or.inl (by decide))).up (Or.inr (by decide))).up (Or.inr (by decide))).upt (by unfold TPR; rw [ff.1 30 (by decide), ff.1 31 (by decide)]; exact hT) (hTc.fr ff) (by rw [ff.1 30 (by decide)]) (by rw [ff.1 20 (by decide), ff.1 21 (by decide), ff.1 22 (by decide)]; exact hK) rfl rfl (by omega) hp2 (by omega)
    rw [e43] at key
    exact key
