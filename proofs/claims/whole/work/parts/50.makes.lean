/-! ===== the model makes calls ===== -/
def wtq (a : WW) (h j : Nat) : Prop := a 51 (a 53 j) = 11 ∧ a 17 (a 53 j / 32) = h
def FSTI (a : WW) (h : Nat) (z : Int32) : Prop := (∃ f, f < a 50 1 ∧ z = nI f ∧ wtq a h f ∧ ∀ l, l < f → ¬ wtq a h l) ∨ (z = -1 ∧ ∀ j, j < a 50 1 → ¬ wtq a h j)
def QO (a : WW) : Prop := a 50 1 ≤ 192 ∧ (∀ i, i < a 50 1 → a 53 i < 192) ∧ (∀ t, t < 6 → a 17 t < 5)
theorem QO.of {a : WW} (hN : NIb (a 50 1) (a 51)) (hc : NIc (a 50 1) (a 53) (a 51)) (hS : SO a) : QO a := ⟨by unfold NIb at hN; omega, fun i hi => (hc i hi).1, fun t ht => (hS.1 t ht).1⟩
theorem m_113 {d : Nat} {a v : WW} {τ : Nat → Nat → Int64} {h : Nat} (hQ : QO a) (hh : h < 5) (hR : Rl a v) {Post : Option Value → Sto → Prop} (hp : ∀ z, FSTI a h z → Post (some (.int z)) (stt (nw v) τ)) : Ex (d + 1) 113 [.ref 57, .int (nI h)] (stt (nw v) τ) 0 0 Post := by
  have e97 := hR.2.2.2.2.2.1.1
  have e47 := hR.2.2.2.2.2.1.2.1
  have e69 := hR.1.q (69, 17) (by decide)
  have key : ∀ j, j < a 50 1 → (mWt (nw v) (a 53) (nI h) j ↔ wtq a h j) := by
    intro j hj
    have hx := hQ.2.1 j hj
    have e94 := (hR.2.2.2.2.2.2.1 (a 53 j) hx).1
    have b94 := sOf_le (a 51 (a 53 j))
    have b17 := hQ.2.2 (a 53 j / 32) (by omega)
    unfold mWt wtq
    rw [show nw v 94 (a 53 j) = nI (sOf (a 51 (a 53 j))) from by rw [← e94]; rfl, show nw v 69 (a 53 j / 32) = nI (a 17 (a 53 j / 32)) from congrArg nI (congrFun e69 _), show (1 : Int32) = nI 1 from rfl, nI_eq (by omega) (by omega), nI_eq (by omega) (by omega), sOf_1]
  refine x_113 (σ := nw v) (n := a 50 1) (qx := a 53) (congrArg nI e47) hQ.1 (fun i hi => congrArg nI (congrFun e97 i)) hQ.2.1 (fun j hj q1 q2 => ?_) (fun q => ?_)
  · exact hp _ (Or.inl ⟨j, hj, rfl, (key j hj).mp q1, fun l hl => fun z => q2 l hl ((key l (by omega)).mpr z)⟩)
  · exact hp _ (Or.inr ⟨rfl, fun j hj => fun z => q j hj ((key j hj).mpr z)⟩)
/-- while the model fills the last call -/
def TKM (w : WW) (h t tk : Nat) : Prop := NM w ∧ SO w ∧ (1 ≤ w 42 5 ∧ w 42 5 ≤ 192) ∧ w 48 (w 42 5 - 1) + w 46 (w 42 5 - 1) = w 42 9 ∧ w 46 (w 42 5 - 1) = tk ∧ w 44 (w 42 5 - 1) = t ∧ w 17 t = h ∧ h < 5 ∧ t < 6
theorem TKM.take {w : WW} {h t tk x : Nat} (H : TKM w h t tk) (hx : x < 192) (hf : w 51 x = 11) (ht : x / 32 = t) (h8 : tk < 8) : TKM (aTake w h x) h t (tk + 1) := by
  obtain ⟨h1, h2, h3, h4, h5, h6, h7, hh, htt⟩ := H
  have := h1.take (q := 0) (g := h) h2 hx hf (by rw [ht]; exact h7) h3.1 h4 (by omega) (by omega)
  refine ⟨this.2.2, h2, h3, ?_, ?_, h6, h7, hh, htt⟩
  · show w 48 (w 42 5 - 1) + va_up (w 46) (w 42 5 - 1) (w 46 (w 42 5 - 1) + 1) (w 42 5 - 1) = w 42 9 + 1
    rw [va_up_self]; omega
  · show va_up (w 46) (w 42 5 - 1) (w 46 (w 42 5 - 1) + 1) (w 42 5 - 1) = tk + 1
    rw [va_up_self]; omega
theorem TKM.beg {w : WW} {h t : Nat} (H : NM w) (hS : SO w) (hn : w 42 5 < 192) (ht : t < 6) (hh : w 17 t = h) : TKM (aBegin w h t) h t 0 := by
  have e1 : (aBegin w h t) 42 5 - 1 = w 42 5 := Nat.add_sub_cancel _ _
  refine ⟨H.begin h t ht, hS, ⟨show 1 ≤ w 42 5 + 1 by omega, show w 42 5 + 1 ≤ 192 by omega⟩, ?_, ?_, ?_, hh, by rw [← hh]; exact (hS.1 t ht).1, ht⟩
  · rw [e1]; show va_up _ _ _ _ + va_up _ _ _ _ = w 42 9; rw [va_up_self, va_up_self]; rfl
  · rw [e1]; exact va_up_self _ _ _
  · rw [e1]; exact va_up_self _ _ _
theorem Rl.begin {a v : WW} (hR : Rl a v) (h t : Nat) : Rl (aBegin a h t) (up2 (up2 (up2 (up2 (up2 (up2 v 57 51 (v 57 51 + 1)) 98 (v 57 51) h) 99 (v 57 51) t) 100 (v 57 51) (v 57 1)) 101 (v 57 51) 0) 102 (v 57 51) 3) := by
  obtain ⟨h1, h2, h3, h4, ⟨⟨r1, r2, r3, r4, r5⟩, r6, r7⟩, h6, h7, h8⟩ := hR
  refine ⟨h1.fr ?_ ((((((FV.rf v).up rfl).up rfl).up rfl).up rfl).up rfl |>.up rfl), h2, h3.fr (fun k hk => aBegin_k a h t (by omega)) (fun k hk => by rw [up2_k _ _ _ _ (by omega), up2_k _ _ _ _ (by omega), up2_k _ _ _ _ (by omega), up2_k _ _ _ _ (by omega), up2_k _ _ _ _ (by omega), up2_k _ _ _ _ (by omega)]), h4, ⟨⟨?_, ?_, ?_, ?_, ?_⟩, ?_, ?_⟩, h6, h7, h8⟩
  · exact ⟨fun k k1 k2 k3 k4 k5 => aBegin_k a h t (by omega), fun g hg i hi => by rw [aBegin_k a h t (by omega)], rfl⟩
  · show va_up (v 98) (v 57 51) h = va_up (a 43) (a 42 5) h; rw [r1, r6]
  · show va_up (v 99) (v 57 51) t = va_up (a 44) (a 42 5) t; rw [r2, r6]
  · show va_up (v 100) (v 57 51) (v 57 1) = va_up (a 45) (a 42 5) (a 1 4); rw [r3, r6, h2.1]
  · show va_up (v 101) (v 57 51) 0 = va_up (a 46) (a 42 5) 0; rw [r4, r6]
  · show va_up (v 102) (v 57 51) 3 = va_up (a 47) (a 42 5) 3; rw [r5, r6]
  · show v 57 51 + 1 = a 42 5 + 1; rw [r6]
  · intro c hc i hi
    have hc : c < a 42 5 + 1 := hc
    have hi : i < va_up (a 46) (a 42 5) 0 c := hi
    show v 103 (8 * c + i) = a 49 (va_up (a 48) (a 42 5) (a 42 9) c + i)
    by_cases e : c = a 42 5
    · rw [e, va_up_self] at hi; omega
    · rw [va_up_ne _ _ e] at hi ⊢
      exact r7 c (by omega) i hi
theorem Rl.take {a v : WW} (hR : Rl a v) {h t tk x : Nat} (H : TKM a h t tk) (h8 : tk < 8) : Rl (aTake a h x) (up2 (up2 (up2 v 103 (8 * (a 42 5 - 1) + tk) (x % 32)) 101 (a 42 5 - 1) (tk + 1)) 94 x 2) := by
  obtain ⟨h1, h2, h3, h4, ⟨⟨r1, r2, r3, r4, r5⟩, r6, r7⟩, h6, h7, hb⟩ := hR
  obtain ⟨k1, k2, k3, k4, k5, k6, k7, k8, k9⟩ := H
  refine ⟨h1.fr ?_ (((FV.rf v).up rfl).up rfl |>.up rfl), h2, h3.fr (fun k hk => aTake_k a h x (by omega)) (fun k hk => by rw [up2_k _ _ _ _ (by omega), up2_k _ _ _ _ (by omega), up2_k _ _ _ _ (by omega)]), h4, ⟨⟨r1, r2, r3, ?_, r5⟩, r6, ?_⟩, h6, h7.set1 (by decide) (by decide), hb⟩
  · exact ⟨fun k k1 k2 k3 k4 k5 => aTake_k a h x (by omega), fun g hg i hi => by rw [aTake_k a h x (by omega)], rfl⟩
  · show va_up (v 101) (a 42 5 - 1) (tk + 1) = va_up (a 46) (a 42 5 - 1) (a 46 (a 42 5 - 1) + 1); rw [r4, k5]
  · intro c hc i hi
    have hc : c < a 42 5 := hc
    have hi : i < va_up (a 46) (a 42 5 - 1) (a 46 (a 42 5 - 1) + 1) c := hi
    have hcc := (k1.2.2.2.2.2.2.2.2 c hc).1
    show va_up (v 103) (8 * (a 42 5 - 1) + tk) (x % 32) (8 * c + i) = va_up (a 49) (a 42 9) (x % 32) (a 48 c + i)
    by_cases e : c = a 42 5 - 1
    · subst e
      rw [va_up_self] at hi
      rcases Nat.lt_or_ge i tk with z | z
      · rw [va_up_ne _ _ (by omega), va_up_ne _ _ (by omega)]
        exact r7 _ hc i (by omega)
      · have ei : i = tk := by omega
        subst ei
        rw [va_up_self, show a 48 (a 42 5 - 1) + i = a 42 9 by omega, va_up_self]
    · rw [va_up_ne _ _ e] at hi
      rw [va_up_ne _ _ (by omega), va_up_ne _ _ (by omega)]
      exact r7 c hc i hi
theorem mkc_first {b h : Nat} (hb : 1 ≤ b) : ∀ (m q : Nat) (w : WW) (f : Nat), q ≤ f → f < q + m → wtq w h f → (∀ j, q ≤ j → j < f → ¬ wtq w h j) → mkc b h m q w = tkg b h (w 53 f / 32) (q + m - f) f 0 (aBegin w h (w 53 f / 32))
  | 0, q, w, f, h1, h2, _, _ => absurd h1 (by omega)
  | m + 1, q, w, f, h1, h2, h3, h4 => by
    rw [mkc_s]
    by_cases e : q = f
    · subst e
      unfold wtq at h3
      rw [if_pos h3, show q + (m + 1) - q = m + 1 by omega, tkg_s, if_pos (by omega), if_pos (show (aBegin w h (w 53 q / 32)) 51 ((aBegin w h (w 53 q / 32)) 53 q) = 11 ∧ (aBegin w h (w 53 q / 32)) 53 q / 32 = w 53 q / 32 from ⟨h3.1, rfl⟩)]
      rfl
    · rw [if_neg (show ¬ (w 51 (w 53 q) = 11 ∧ w 17 (w 53 q / 32) = h) from h4 q (Nat.le_refl _) (by omega)), mkc_first hb m (q + 1) w f (by omega) (by omega) h3 (fun j j1 j2 => h4 j (by omega) j2), show q + 1 + m - f = q + (m + 1) - f by omega]
theorem Rl.cong {a b v : WW} (h : Rl a v) (e : ∀ k, k ≠ 50 → k ≠ 54 → b k = a k) (e1 : b 50 1 = a 50 1) (e2 : b 50 11 = a 50 11) : Rl b v := by
  obtain ⟨h1, h2, h3, h4, h5, h6, h7, h8⟩ := h
  refine ⟨h1.fr ⟨fun k k1 _ _ _ _ => e k (by omega) (by omega), fun g hg i _ => by rw [e (11 + g) (by omega) (by omega)], e2⟩ (FV.rf v), ?_, h3.fr (fun k hk => e k (by omega) (by omega)) (fun _ _ => rfl), ?_, ?_, ?_, ?_, ?_⟩
  · unfold RT; rw [e 1 (by decide) (by decide), e 5 (by decide) (by decide)]; exact h2
  · rw [e 25 (by decide) (by decide), e 1 (by decide) (by decide)]; exact h4
  · unfold RC; rw [e 42 (by decide) (by decide), e 43 (by decide) (by decide), e 44 (by decide) (by decide), e 45 (by decide) (by decide), e 46 (by decide) (by decide), e 47 (by decide) (by decide), e 48 (by decide) (by decide), e 49 (by decide) (by decide)]; exact h5
  · unfold RQ; rw [e 53 (by decide) (by decide), e1]; exact h6
  · rw [e 51 (by decide) (by decide)]; exact h7
  · rw [e 52 (by decide) (by decide)]; exact h8
set_option maxRecDepth 20000 in
theorem ml_114 {d A b h t nc : Nat} {z : Int32} {v0 : WW} {τ : Nat → Nat → Int64} {Post : Option Value → Sto → Prop} (hb : b ≤ 8) : ∀ (nn : Nat) (q tk : Nat) (a v : WW), TKM a h t tk → Rl a v → FV v0 v → a 50 1 = A → 1 ≤ b → v 59 h = b → q ≤ A → a 42 5 - 1 = nc → (∀ v, Rl (tkg b h t (A - q) q tk a) v → FV v0 v → Post none (stt (nw v) τ)) → A - q < nn → RU_114 d (0, 0) Post 64 [(4, .int (nI q)), (3, .int (nI (a 42 5 - 1))), (0, .ref 57), (1, .int (nI h)), (2, .int z)] [] (stt (nw v) τ) 0 0 := by
  intro nn
  induction nn with
  | zero => intro q tk a v H hR hV ha hb2 e59 hq hnc hp hms; exact absurd hms (by omega)
  | succ nn ih =>
    intro q tk a v H hR hV ha hb2 e59 hq hnc hp hms
    obtain ⟨k1, k2, k3, k4, k5, k6, k7, k8, k9⟩ := id H
    have e47 := hR.2.2.2.2.2.1.2.1
    have e97 := hR.2.2.2.2.2.1.1
    have e101 : v 101 (a 42 5 - 1) = tk := by rw [hR.2.2.2.2.1.1.2.2.2.1]; exact k5
    have e99 : v 99 (a 42 5 - 1) = t := by rw [hR.2.2.2.2.1.1.2.1]; exact k6
    have ha3 : a 50 1 ≤ 192 := by have h0 := H.1.2.1; unfold NIb at h0; omega
    have hk8 := (k1.2.2.2.2.2.2.2.2 (a 42 5 - 1) (by omega)).1
    have hz : True := trivial
    have e97 : v 97 = a 53 := e97
    refine R_seg sg_114_64 sk_114_64 (pc' := 70) (lv' := [(4, .int (nI q)), (3, .int (nI (a 42 5 - 1))), (0, .ref 57), (1, .int (nI h)), (2, .int z)]) (st' := [.int (nI (v 57 47)), .int (nI q)]) (S' := stt (nw v) τ) (kc' := 0) (ks' := 0) rfl ⟨trivial, trivial, rfl, trivial⟩ ?_
    rw [e47]
    refine R_icmp ck_114_70 (fun (c_70 : (nI (a 50 1)) ≤ (nI q)) => ?_) (fun (c_70 : ¬ (nI (a 50 1)) ≤ (nI q)) => ?_)
    · have c_70 : (a 50 1) ≤ q := (nI_leI (a := (a 50 1)) (b := q) (by omega) (by omega)).mp c_70
      refine R_ret ck_114_167 rfl ?_
      first | (rw [show A - q = 0 by omega] at hp; exact hp v hR hV) | (rw [tkg_s, if_neg (by omega)] at hp; exact hp v hR hV)
    · have c_70 : q < (a 50 1) := Nat.not_le.mp (fun zq => c_70 ((nI_leI (a := (a 50 1)) (b := q) (by omega) (by omega)).mpr zq))
      obtain ⟨m, em⟩ : ∃ m, A - q = m + 1 := ⟨A - q - 1, by omega⟩
      rw [em] at hp
      have em2 : m = A - (q + 1) := by omega
      subst em2
      have hxq := (H.1.2.2.1 q (by omega)).1
      have e94 := (hR.2.2.2.2.2.2.1 (a 53 q) hxq).1
      have b94 := sOf_le (a 51 (a 53 q))
      refine R_seg sg_114_73 sk_114_73 (pc' := 78) (lv' := [(4, .int (nI q)), (3, .int (nI (a 42 5 - 1))), (0, .ref 57), (1, .int (nI h)), (2, .int z)]) (st' := [.int (nI (a 42 5 - 1)), .ref 101]) (S' := stt (nw v) τ) (kc' := 0) (ks' := 0) rfl ⟨trivial, rfl, trivial, trivial⟩ ?_
      refine R_iald ca_114_78 (j := a 42 5 - 1) rfl rfl (by omega) ?_
      show RU_114 d (0, 0) Post 79 ([(4, .int (nI q)), (3, .int (nI (a 42 5 - 1))), (0, .ref 57), (1, .int (nI h)), (2, .int z)]) ([.int (nI (v 101 (a 42 5 - 1)))]) (stt (nw v) τ) 0 0
      rw [e101]
      refine R_seg sg_114_79 sk_114_79 (pc' := 84) (lv' := [(4, .int (nI q)), (3, .int (nI (a 42 5 - 1))), (0, .ref 57), (1, .int (nI h)), (2, .int z)]) (st' := [.int (nI h), .ref 59, .int (nI tk)]) (S' := stt (nw v) τ) (kc' := 0) (ks' := 0) rfl ⟨trivial, rfl, trivial, trivial⟩ ?_
      refine R_iald ca_114_84 (j := h) rfl rfl (by omega) ?_
      show RU_114 d (0, 0) Post 85 ([(4, .int (nI q)), (3, .int (nI (a 42 5 - 1))), (0, .ref 57), (1, .int (nI h)), (2, .int z)]) ([.int (nI (v 59 h)), .int (nI tk)]) (stt (nw v) τ) 0 0
      rw [e59]
      refine R_icmp ck_114_85 (fun (c_85 : (nI b) ≤ (nI tk)) => ?_) (fun (c_85 : ¬ (nI b) ≤ (nI tk)) => ?_)
      · have c_85 : b ≤ tk := (nI_leI (a := b) (b := tk) (by omega) (by omega)).mp c_85
        refine R_ret ck_114_167 rfl ?_
        first | (rw [show A - q = 0 by omega] at hp; exact hp v hR hV) | (rw [tkg_s, if_neg (by omega)] at hp; exact hp v hR hV)
      · have c_85 : tk < b := Nat.not_le.mp (fun zq => c_85 ((nI_leI (a := b) (b := tk) (by omega) (by omega)).mpr zq))
        refine R_seg sg_114_88 sk_114_88 (pc' := 94) (lv' := [(4, .int (nI q)), (3, .int (nI (a 42 5 - 1))), (0, .ref 57), (1, .int (nI h)), (2, .int z)]) (st' := [.int (nI q), .ref 97]) (S' := stt (nw v) τ) (kc' := 0) (ks' := 0) rfl ⟨trivial, rfl, trivial, trivial⟩ ?_
        refine R_iald ca_114_94 (j := q) rfl rfl (by omega) ?_
        show RU_114 d (0, 0) Post 95 ([(4, .int (nI q)), (3, .int (nI (a 42 5 - 1))), (0, .ref 57), (1, .int (nI h)), (2, .int z)]) ([.int (nI (v 97 q))]) (stt (nw v) τ) 0 0
        rw [e97]
        refine R_seg sg_114_95 sk_114_95 (pc' := 103) (lv' := [(5, .int (nI (a 53 q))), (4, .int (nI q)), (3, .int (nI (a 42 5 - 1))), (0, .ref 57), (1, .int (nI h)), (2, .int z)]) (st' := [.int (nI (a 53 q)), .ref 94]) (S' := stt (nw v) τ) (kc' := 0) (ks' := 0) rfl ⟨(by decide), trivial, rfl, trivial, trivial⟩ ?_
        refine R_iald ca_114_103 (j := a 53 q) rfl rfl (by omega) ?_
        refine R_seg sg_114_104 sk_114_104 (pc' := 105) (lv' := [(5, .int (nI (a 53 q))), (4, .int (nI q)), (3, .int (nI (a 42 5 - 1))), (0, .ref 57), (1, .int (nI h)), (2, .int z)]) (st' := [.int 1, .int (nI (v 94 (a 53 q)))]) (S' := stt (nw v) τ) (kc' := 0) (ks' := 0) rfl ⟨trivial, trivial⟩ ?_
        refine R_icmp ck_114_105 (fun (c_105 : ¬ (nI (v 94 (a 53 q))) = 1) => ?_) (fun (c_105 : ¬ ¬ (nI (v 94 (a 53 q))) = 1) => ?_)
        · have c_105 : ¬ (v 94 (a 53 q)) = 1 := fun zq => c_105 ((nI_eq (a := (v 94 (a 53 q))) (b := 1) (by omega) (by omega)).mpr zq)
          have c_105 : ¬ a 51 (a 53 q) = 11 := fun z => c_105 (by rw [e94]; exact sOf_1.mpr z)
          refine R_seg sg_114_161 sk_114_161 (pc' := 164) (lv' := [(4, .int ((nI q) + 1)), (5, .int (nI (a 53 q))), (3, .int (nI (a 42 5 - 1))), (0, .ref 57), (1, .int (nI h)), (2, .int z)]) (st' := []) (S' := stt (nw v) τ) (kc' := 0) (ks' := 0) rfl ⟨(by decide), trivial⟩ ?_
          refine R_goto ck_114_164 ?_
          refine Runs.lv (lv := [(4, .int ((nI q) + 1)), (3, .int (nI (a 42 5 - 1))), (0, .ref 57), (1, .int (nI h)), (2, .int z)]) ?_ _ (lvS_l (show ([4, 3, 0, 1, 2] : List Nat).Nodup from by decide) (by intro q hq; simp only [List.mem_cons, List.not_mem_nil, or_false] at hq; rcases hq with rfl | rfl | rfl | rfl | rfl <;> rfl))
          rw [nI_1 q]
          exact ih (q + 1) tk a v H hR hV ha hb2 e59 (by omega) hnc (by first | (rw [tkg_s, if_pos c_85, if_neg (fun z => c_105 z.1)] at hp; exact hp) | (rw [tkg_s, if_pos c_85, if_neg (fun z => c_119 z.2)] at hp; exact hp)) (by omega)
        · have c_105 : (v 94 (a 53 q)) = 1 := (nI_eq (a := (v 94 (a 53 q))) (b := 1) (by omega) (by omega)).mp (Classical.not_not.mp c_105)
          have c_105 : a 51 (a 53 q) = 11 := sOf_1.mp (by rw [← e94]; exact c_105)
          refine R_seg sg_114_108 sk_114_108 (pc' := 118) (lv' := [(5, .int (nI (a 53 q))), (4, .int (nI q)), (3, .int (nI (a 42 5 - 1))), (0, .ref 57), (1, .int (nI h)), (2, .int z)]) (st' := [.int (nI (a 42 5 - 1)), .ref 99, .int ((nI (a 53 q)) / 32)]) (S' := stt (nw v) τ) (kc' := 0) (ks' := 0) rfl ⟨trivial, trivial, (by decide), trivial, rfl, trivial, trivial⟩ ?_
          rw [show nI (a 53 q) / 32 = nI (a 53 q / 32) from pk_div (d := 32) (by omega) (by omega) (by omega)]
          refine R_iald ca_114_118 (j := a 42 5 - 1) rfl rfl (by omega) ?_
          show RU_114 d (0, 0) Post 119 ([(5, .int (nI (a 53 q))), (4, .int (nI q)), (3, .int (nI (a 42 5 - 1))), (0, .ref 57), (1, .int (nI h)), (2, .int z)]) ([.int (nI (v 99 (a 42 5 - 1))), .int (nI (a 53 q / 32))]) (stt (nw v) τ) 0 0
          rw [e99]
          refine R_icmp ck_114_119 (fun (c_119 : ¬ (nI (a 53 q / 32)) = (nI t)) => ?_) (fun (c_119 : ¬ ¬ (nI (a 53 q / 32)) = (nI t)) => ?_)
          · have c_119 : ¬ (a 53 q / 32) = t := fun zq => c_119 ((nI_eq (a := (a 53 q / 32)) (b := t) (by omega) (by omega)).mpr zq)
            refine R_seg sg_114_161 sk_114_161 (pc' := 164) (lv' := [(4, .int ((nI q) + 1)), (5, .int (nI (a 53 q))), (3, .int (nI (a 42 5 - 1))), (0, .ref 57), (1, .int (nI h)), (2, .int z)]) (st' := []) (S' := stt (nw v) τ) (kc' := 0) (ks' := 0) rfl ⟨(by decide), trivial⟩ ?_
            refine R_goto ck_114_164 ?_
            refine Runs.lv (lv := [(4, .int ((nI q) + 1)), (3, .int (nI (a 42 5 - 1))), (0, .ref 57), (1, .int (nI h)), (2, .int z)]) ?_ _ (lvS_l (show ([4, 3, 0, 1, 2] : List Nat).Nodup from by decide) (by intro q hq; simp only [List.mem_cons, List.not_mem_nil, or_false] at hq; rcases hq with rfl | rfl | rfl | rfl | rfl <;> rfl))
            rw [nI_1 q]
            exact ih (q + 1) tk a v H hR hV ha hb2 e59 (by omega) hnc (by first | (rw [tkg_s, if_pos c_85, if_neg (fun z => c_105 z.1)] at hp; exact hp) | (rw [tkg_s, if_pos c_85, if_neg (fun z => c_119 z.2)] at hp; exact hp)) (by omega)
          · have c_119 : (a 53 q / 32) = t := (nI_eq (a := (a 53 q / 32)) (b := t) (by omega) (by omega)).mp (Classical.not_not.mp c_119)
            refine R_seg sg_114_122 sk_114_122 (pc' := 135) (lv' := [(5, .int (nI (a 53 q))), (4, .int (nI q)), (3, .int (nI (a 42 5 - 1))), (0, .ref 57), (1, .int (nI h)), (2, .int z)]) (st' := [.int (nI (a 42 5 - 1)), .ref 101, .int (8 * (nI (a 42 5 - 1))), .ref 103]) (S' := stt (nw v) τ) (kc' := 0) (ks' := 0) rfl ⟨trivial, rfl, trivial, trivial, trivial, trivial, rfl, trivial, trivial⟩ ?_
            refine R_iald ca_114_135 (j := a 42 5 - 1) rfl rfl (by omega) ?_
            show RU_114 d (0, 0) Post 136 ([(5, .int (nI (a 53 q))), (4, .int (nI q)), (3, .int (nI (a 42 5 - 1))), (0, .ref 57), (1, .int (nI h)), (2, .int z)]) ([.int (nI (v 101 (a 42 5 - 1))), .int (8 * (nI (a 42 5 - 1))), .ref 103]) (stt (nw v) τ) 0 0
            rw [e101]
            refine R_seg sg_114_136 sk_114_136 (pc' := 142) (lv' := [(5, .int (nI (a 53 q))), (4, .int (nI q)), (3, .int (nI (a 42 5 - 1))), (0, .ref 57), (1, .int (nI h)), (2, .int z)]) (st' := [.int ((nI (a 53 q)) - (nI (a 53 q)) / 32 * 32), .int ((8 * (nI (a 42 5 - 1))) + (nI tk)), .ref 103]) (S' := stt (nw v) τ) (kc' := 0) (ks' := 0) rfl ⟨trivial, trivial, trivial, (by decide), trivial⟩ ?_
            rw [show nI (a 53 q) - nI (a 53 q) / 32 * 32 = nI (a 53 q % 32) from pk_rem (d := 32) (by omega) (by omega) (by omega)]
            refine R_iast ca_114_142 (j := 8 * (a 42 5 - 1) + tk) rfl (by rw [show (8 : Int32) = nI 8 from rfl, pk_mul, nI_add]) (by omega) ?_
            show RU_114 d (0, 0) Post 143 ([(5, .int (nI (a 53 q))), (4, .int (nI q)), (3, .int (nI (a 42 5 - 1))), (0, .ref 57), (1, .int (nI h)), (2, .int z)]) ([]) (stt (up2 (nw v) 103 (8 * (a 42 5 - 1) + tk) (nI (a 53 q % 32))) τ) 0 0
            rw [nw_up (w := v) (k := 103) (i := (8 * (a 42 5 - 1) + tk)) (v := nI (a 53 q % 32)) (n := a 53 q % 32) rfl]
            refine R_seg sg_114_143 sk_114_143 (pc' := 149) (lv' := [(5, .int (nI (a 53 q))), (4, .int (nI q)), (3, .int (nI (a 42 5 - 1))), (0, .ref 57), (1, .int (nI h)), (2, .int z)]) (st' := [.int (nI (a 42 5 - 1)), .ref 101, .int (nI (a 42 5 - 1)), .ref 101]) (S' := stt (nw (up2 v 103 (8 * (a 42 5 - 1) + tk) (a 53 q % 32))) τ) (kc' := 0) (ks' := 0) rfl ⟨trivial, rfl, trivial, ⟨rfl, rfl⟩, trivial⟩ ?_
            refine R_iald ca_114_149 (j := a 42 5 - 1) rfl rfl (by omega) ?_
            show RU_114 d (0, 0) Post 150 ([(5, .int (nI (a 53 q))), (4, .int (nI q)), (3, .int (nI (a 42 5 - 1))), (0, .ref 57), (1, .int (nI h)), (2, .int z)]) ([.int (nI (v 101 (a 42 5 - 1))), .int (nI (a 42 5 - 1)), .ref 101]) (stt (nw (up2 v 103 (8 * (a 42 5 - 1) + tk) (a 53 q % 32))) τ) 0 0
            rw [e101]
            refine R_seg sg_114_150 sk_114_150 (pc' := 152) (lv' := [(5, .int (nI (a 53 q))), (4, .int (nI q)), (3, .int (nI (a 42 5 - 1))), (0, .ref 57), (1, .int (nI h)), (2, .int z)]) (st' := [.int ((nI tk) + 1), .int (nI (a 42 5 - 1)), .ref 101]) (S' := stt (nw (up2 v 103 (8 * (a 42 5 - 1) + tk) (a 53 q % 32))) τ) (kc' := 0) (ks' := 0) rfl ⟨trivial, trivial, trivial⟩ ?_
            refine R_iast ca_114_152 (j := a 42 5 - 1) rfl rfl (by omega) ?_
            show RU_114 d (0, 0) Post 153 ([(5, .int (nI (a 53 q))), (4, .int (nI q)), (3, .int (nI (a 42 5 - 1))), (0, .ref 57), (1, .int (nI h)), (2, .int z)]) ([]) (stt (up2 (nw (up2 v 103 (8 * (a 42 5 - 1) + tk) (a 53 q % 32))) 101 (a 42 5 - 1) ((nI tk) + 1)) τ) 0 0
            rw [nw_up (w := up2 v 103 (8 * (a 42 5 - 1) + tk) (a 53 q % 32)) (k := 101) (i := (a 42 5 - 1)) (v := (nI tk) + 1) (n := tk + 1) (by first | exact nI_1 tk | (rw [show (up2 v 103 (8 * (a 42 5 - 1) + tk) (a 53 q % 32)) 101 (a 42 5 - 1) = tk from e101]; exact nI_1 tk))]
            refine R_seg sg_114_153 sk_114_153 (pc' := 160) (lv' := [(5, .int (nI (a 53 q))), (4, .int (nI q)), (3, .int (nI (a 42 5 - 1))), (0, .ref 57), (1, .int (nI h)), (2, .int z)]) (st' := [.int 2, .int (nI (a 53 q)), .ref 94]) (S' := stt (nw (up2 (up2 v 103 (8 * (a 42 5 - 1) + tk) (a 53 q % 32)) 101 (a 42 5 - 1) (tk + 1))) τ) (kc' := 0) (ks' := 0) rfl ⟨trivial, rfl, trivial, trivial, trivial⟩ ?_
            refine R_iast ca_114_160 (j := a 53 q) rfl rfl (by omega) ?_
            show RU_114 d (0, 0) Post 161 ([(5, .int (nI (a 53 q))), (4, .int (nI q)), (3, .int (nI (a 42 5 - 1))), (0, .ref 57), (1, .int (nI h)), (2, .int z)]) ([]) (stt (up2 (nw (up2 (up2 v 103 (8 * (a 42 5 - 1) + tk) (a 53 q % 32)) 101 (a 42 5 - 1) (tk + 1))) 94 (a 53 q) 2) τ) 0 0
            rw [nw_up (w := up2 (up2 v 103 (8 * (a 42 5 - 1) + tk) (a 53 q % 32)) 101 (a 42 5 - 1) (tk + 1)) (k := 94) (i := (a 53 q)) (v := 2) (n := 2) rfl]
            refine R_seg sg_114_161 sk_114_161 (pc' := 164) (lv' := [(4, .int ((nI q) + 1)), (5, .int (nI (a 53 q))), (3, .int (nI (a 42 5 - 1))), (0, .ref 57), (1, .int (nI h)), (2, .int z)]) (st' := []) (S' := stt (nw (up2 (up2 (up2 v 103 (8 * (a 42 5 - 1) + tk) (a 53 q % 32)) 101 (a 42 5 - 1) (tk + 1)) 94 (a 53 q) 2)) τ) (kc' := 0) (ks' := 0) rfl ⟨(by decide), trivial⟩ ?_
            refine R_goto ck_114_164 ?_
            refine Runs.lv (lv := [(4, .int ((nI q) + 1)), (3, .int (nI (a 42 5 - 1))), (0, .ref 57), (1, .int (nI h)), (2, .int z)]) ?_ _ (lvS_l (show ([4, 3, 0, 1, 2] : List Nat).Nodup from by decide) (by intro q hq; simp only [List.mem_cons, List.not_mem_nil, or_false] at hq; rcases hq with rfl | rfl | rfl | rfl | rfl <;> rfl))
            rw [nI_1 q]
            exact ih (q + 1) (tk + 1) (aTake a h (a 53 q)) _ (H.take hxq c_105 c_119 (by omega)) (hR.take H (by omega)) (((hV.up rfl).up rfl).up rfl) ha hb2 e59 (by omega) hnc (by rw [tkg_s, if_pos c_85, if_pos ⟨c_105, c_119⟩] at hp; exact hp) (by omega)
set_option maxRecDepth 20000 in
theorem m_114 {d b h f : Nat} {a v : WW} {τ : Nat → Nat → Int64} {Post : Option Value → Sto → Prop} (hb1 : 1 ≤ b) (hb : b ≤ 8) (hN : NI a) (hS : SO a) (hf : f < a 50 1) (hw : wtq a h f) (e59 : v 59 h = b) (hR : Rl a v) (hp : ∀ v', Rl (tkg b h (a 53 f / 32) (a 50 1 - f) f 0 (aBegin a h (a 53 f / 32))) v' → FV v v' → Post none (stt (nw v') τ)) : Ex (d + 1) 114 [.ref 57, .int (nI h), .int (nI f)] (stt (nw v) τ) 0 0 Post := by
  have e97 := hR.2.2.2.2.2.1.1
  have e51 := hR.2.2.2.2.1.2.1
  have hxf := (hN.2.2.1 f hf).1
  have hk := (hN.2.2.2.2.2.2.2.1.add hxf hw.1).1
  have hl := hN.2.2.2.2.2.2.2.2.1
  have ha3 : a 50 1 ≤ 192 := by have h0 := hN.2.1; unfold NIb at h0; omega
  refine en_114 (Nat.le_of_ble_eq_true rfl) ?_
  show RU_114 d (0, 0) Post 0 ([(0, .ref 57), (1, .int (nI h)), (2, .int (nI f))]) ([]) (stt (nw v) τ) 0 0
  refine R_seg [(.aload_n 0, 1, 0, 0, 0, 0), (.getfield 254, 3, 11, 51, 0, 0), (.istore_n 3, 1, 0, 0, 0, 0), (.aload_n 0, 1, 0, 0, 0, 0), (.dup, 1, 0, 0, 0, 0), (.getfield 254, 3, 11, 51, 0, 0), (.iconst 1, 1, 0, 0, 0, 1), (.iadd, 1, 0, 0, 0, 0), (.putfield 254, 3, 11, 51, 0, 0)] (by decide +kernel) (pc' := 15) (lv' := [(3, .int (nI (v 57 51))), (0, .ref 57), (1, .int (nI h)), (2, .int (nI f))]) (st' := []) (S' := stt (up2 (nw v) 57 51 ((nI (v 57 51)) + 1)) τ) (kc' := 0) (ks' := 0) rfl ⟨trivial, rfl, (by decide), trivial, rfl, rfl, trivial, trivial, ⟨rfl, ⟨rfl, rfl⟩⟩, trivial⟩ ?_
  show RU_114 d (0, 0) Post 15 ([(3, .int (nI (v 57 51))), (0, .ref 57), (1, .int (nI h)), (2, .int (nI f))]) ([]) (stt (up2 (nw v) 57 51 ((nI (v 57 51)) + 1)) τ) 0 0
  rw [nw_up (w := v) (k := 57) (i := 51) (v := (nI (v 57 51)) + 1) (n := v 57 51 + 1) (nI_1 _)]
  skip
  refine R_seg [(.aload_n 0, 1, 0, 0, 0, 0), (.getfield 133, 3, 11, 52, 2, 0), (.iload_n 3, 1, 0, 0, 0, 0), (.iload_n 1, 1, 0, 0, 0, 0)] (by decide +kernel) (pc' := 21) (lv' := [(3, .int (nI (v 57 51))), (0, .ref 57), (1, .int (nI h)), (2, .int (nI f))]) (st' := [.int (nI h), .int (nI (v 57 51)), .ref 98]) (S' := stt (nw (up2 v 57 51 (v 57 51 + 1))) τ) (kc' := 0) (ks' := 0) rfl ⟨trivial, rfl, trivial, trivial, trivial⟩ ?_
  refine R_iast ca_114_21 (j := v 57 51) rfl rfl (by omega) ?_
  show RU_114 d (0, 0) Post 22 ([(3, .int (nI (v 57 51))), (0, .ref 57), (1, .int (nI h)), (2, .int (nI f))]) ([]) (stt (up2 (nw (up2 v 57 51 (v 57 51 + 1))) 98 (v 57 51) (nI h)) τ) 0 0
  rw [nw_up (w := up2 v 57 51 (v 57 51 + 1)) (k := 98) (i := (v 57 51)) (v := nI h) (n := h) rfl]
  refine R_seg sg_114_22 sk_114_22 (pc' := 32) (lv' := [(3, .int (nI (v 57 51))), (0, .ref 57), (1, .int (nI h)), (2, .int (nI f))]) (st' := [.int (nI f), .ref 97, .int (nI (v 57 51)), .ref 99]) (S' := stt (nw (up2 (up2 v 57 51 (v 57 51 + 1)) 98 (v 57 51) h)) τ) (kc' := 0) (ks' := 0) rfl ⟨trivial, rfl, trivial, trivial, rfl, trivial, trivial⟩ ?_
  refine R_iald ca_114_32 (j := f) rfl rfl (by omega) ?_
  show RU_114 d (0, 0) Post 33 ([(3, .int (nI (v 57 51))), (0, .ref 57), (1, .int (nI h)), (2, .int (nI f))]) ([.int (nI (v 97 f)), .int (nI (v 57 51)), .ref 99]) (stt (nw (up2 (up2 v 57 51 (v 57 51 + 1)) 98 (v 57 51) h)) τ) 0 0
  rw [show v 97 f = a 53 f from congrFun e97 f]
  refine R_seg sg_114_33 sk_114_33 (pc' := 36) (lv' := [(3, .int (nI (v 57 51))), (0, .ref 57), (1, .int (nI h)), (2, .int (nI f))]) (st' := [.int ((nI (a 53 f)) / 32), .int (nI (v 57 51)), .ref 99]) (S' := stt (nw (up2 (up2 v 57 51 (v 57 51 + 1)) 98 (v 57 51) h)) τ) (kc' := 0) (ks' := 0) rfl ⟨trivial, (by decide), trivial⟩ ?_
  rw [show nI (a 53 f) / 32 = nI (a 53 f / 32) from pk_div (d := 32) (by omega) (by omega) (by omega)]
  refine R_iast ca_114_36 (j := v 57 51) rfl rfl (by omega) ?_
  show RU_114 d (0, 0) Post 37 ([(3, .int (nI (v 57 51))), (0, .ref 57), (1, .int (nI h)), (2, .int (nI f))]) ([]) (stt (up2 (nw (up2 (up2 v 57 51 (v 57 51 + 1)) 98 (v 57 51) h)) 99 (v 57 51) (nI (a 53 f / 32))) τ) 0 0
  rw [nw_up (w := up2 (up2 v 57 51 (v 57 51 + 1)) 98 (v 57 51) h) (k := 99) (i := (v 57 51)) (v := nI (a 53 f / 32)) (n := a 53 f / 32) rfl]
  refine R_seg sg_114_37 sk_114_37 (pc' := 46) (lv' := [(3, .int (nI (v 57 51))), (0, .ref 57), (1, .int (nI h)), (2, .int (nI f))]) (st' := [.int (nI (v 57 1)), .int (nI (v 57 51)), .ref 100]) (S' := stt (nw (up2 (up2 (up2 v 57 51 (v 57 51 + 1)) 98 (v 57 51) h) 99 (v 57 51) (a 53 f / 32))) τ) (kc' := 0) (ks' := 0) rfl ⟨trivial, rfl, trivial, trivial, rfl, trivial⟩ ?_
  refine R_iast ca_114_46 (j := v 57 51) rfl rfl (by omega) ?_
  show RU_114 d (0, 0) Post 47 ([(3, .int (nI (v 57 51))), (0, .ref 57), (1, .int (nI h)), (2, .int (nI f))]) ([]) (stt (up2 (nw (up2 (up2 (up2 v 57 51 (v 57 51 + 1)) 98 (v 57 51) h) 99 (v 57 51) (a 53 f / 32))) 100 (v 57 51) (nI (v 57 1))) τ) 0 0
  rw [nw_up (w := up2 (up2 (up2 v 57 51 (v 57 51 + 1)) 98 (v 57 51) h) 99 (v 57 51) (a 53 f / 32)) (k := 100) (i := (v 57 51)) (v := nI (v 57 1)) (n := v 57 1) rfl]
  refine R_seg sg_114_47 sk_114_47 (pc' := 53) (lv' := [(3, .int (nI (v 57 51))), (0, .ref 57), (1, .int (nI h)), (2, .int (nI f))]) (st' := [.int 0, .int (nI (v 57 51)), .ref 101]) (S' := stt (nw (up2 (up2 (up2 (up2 v 57 51 (v 57 51 + 1)) 98 (v 57 51) h) 99 (v 57 51) (a 53 f / 32)) 100 (v 57 51) (v 57 1))) τ) (kc' := 0) (ks' := 0) rfl ⟨trivial, rfl, trivial, trivial, trivial⟩ ?_
  refine R_iast ca_114_53 (j := v 57 51) rfl rfl (by omega) ?_
  show RU_114 d (0, 0) Post 54 ([(3, .int (nI (v 57 51))), (0, .ref 57), (1, .int (nI h)), (2, .int (nI f))]) ([]) (stt (up2 (nw (up2 (up2 (up2 (up2 v 57 51 (v 57 51 + 1)) 98 (v 57 51) h) 99 (v 57 51) (a 53 f / 32)) 100 (v 57 51) (v 57 1))) 101 (v 57 51) 0) τ) 0 0
  rw [nw_up (w := up2 (up2 (up2 (up2 v 57 51 (v 57 51 + 1)) 98 (v 57 51) h) 99 (v 57 51) (a 53 f / 32)) 100 (v 57 51) (v 57 1)) (k := 101) (i := (v 57 51)) (v := 0) (n := 0) rfl]
  refine R_seg sg_114_54 sk_114_54 (pc' := 60) (lv' := [(3, .int (nI (v 57 51))), (0, .ref 57), (1, .int (nI h)), (2, .int (nI f))]) (st' := [.int 3, .int (nI (v 57 51)), .ref 102]) (S' := stt (nw (up2 (up2 (up2 (up2 (up2 v 57 51 (v 57 51 + 1)) 98 (v 57 51) h) 99 (v 57 51) (a 53 f / 32)) 100 (v 57 51) (v 57 1)) 101 (v 57 51) 0)) τ) (kc' := 0) (ks' := 0) rfl ⟨trivial, rfl, trivial, trivial, trivial⟩ ?_
  refine R_iast ca_114_60 (j := v 57 51) rfl rfl (by omega) ?_
  show RU_114 d (0, 0) Post 61 ([(3, .int (nI (v 57 51))), (0, .ref 57), (1, .int (nI h)), (2, .int (nI f))]) ([]) (stt (up2 (nw (up2 (up2 (up2 (up2 (up2 v 57 51 (v 57 51 + 1)) 98 (v 57 51) h) 99 (v 57 51) (a 53 f / 32)) 100 (v 57 51) (v 57 1)) 101 (v 57 51) 0)) 102 (v 57 51) 3) τ) 0 0
  rw [nw_up (w := up2 (up2 (up2 (up2 (up2 v 57 51 (v 57 51 + 1)) 98 (v 57 51) h) 99 (v 57 51) (a 53 f / 32)) 100 (v 57 51) (v 57 1)) 101 (v 57 51) 0) (k := 102) (i := (v 57 51)) (v := 3) (n := 3) rfl]
  refine R_seg sg_114_61 sk_114_61 (pc' := 64) (lv' := [(4, .int (nI f)), (3, .int (nI (v 57 51))), (0, .ref 57), (1, .int (nI h)), (2, .int (nI f))]) (st' := []) (S' := stt (nw (up2 (up2 (up2 (up2 (up2 (up2 v 57 51 (v 57 51 + 1)) 98 (v 57 51) h) 99 (v 57 51) (a 53 f / 32)) 100 (v 57 51) (v 57 1)) 101 (v 57 51) 0) 102 (v 57 51) 3)) τ) (kc' := 0) (ks' := 0) rfl ⟨trivial, (by decide), trivial⟩ ?_
  refine Runs.lv (lv := [(4, .int (nI f)), (3, .int (nI (v 57 51))), (0, .ref 57), (1, .int (nI h)), (2, .int (nI f))]) ?_ _ (lvS_l (show ([4, 3, 0, 1, 2] : List Nat).Nodup from by decide) (by intro q hq; simp only [List.mem_cons, List.not_mem_nil, or_false] at hq; rcases hq with rfl | rfl | rfl | rfl | rfl <;> rfl))
  rw [show nI (v 57 51) = nI ((aBegin a h (a 53 f / 32)) 42 5 - 1) from by rw [e51]; rfl]
  exact ml_114 (A := a 50 1) (b := b) (t := a 53 f / 32) hb (a 50 1 - f + 1) f 0 (aBegin a h (a 53 f / 32)) _ (TKM.beg hN.nm hS (by omega) (by omega) hw.2) (hR.begin h (a 53 f / 32)) ((((((FV.rf v).up rfl).up rfl).up rfl).up rfl).up rfl |>.up rfl) rfl hb1 e59 (by omega) rfl hp (by omega)
/-! ===== makes ===== -/
theorem aMake_first {a : WW} {h f : Nat} (hN : NI a) (hb : 1 ≤ a (11 + h) 1) (hf : f < a 50 1) (hw : wtq a h f) (hm : ∀ l, l < f → ¬ wtq a h l) : aMake h a = tkg (a (11 + h) 1) h (a 53 f / 32) (a 50 1 - f) f 0 (aBegin a h (a 53 f / 32)) := by
  have h7 := hN.2.2.2.2.2.2.1
  have hq : a 50 9 ≤ f := by
    rcases Nat.lt_or_ge f (a 50 9) with z | z
    · exact absurd hw.1 (h7.2 f z)
    · exact z
  have := h7.1
  show mkc _ h (a 50 1 - a 50 9) (a 50 9) a = _
  rw [mkc_first hb _ _ a f hq (by omega) hw (fun j _ hj => hm j hj), show a 50 9 + (a 50 1 - a 50 9) - f = a 50 1 - f by omega]
theorem FST_w {a : WW} {h : Nat} (hN : NI a) (hS : SO a) (hh : h < 5) : 0 < a 54 h ↔ ∃ j, j < a 50 1 ∧ wtq a h j := by
  rw [hN.2.2.2.1 h hh, fb_ct_pos]
  constructor
  · rintro ⟨x, hx, hb⟩
    rw [Bool.and_eq_true, beq_iff_eq, beq_iff_eq] at hb
    obtain ⟨⟨i, i1, i2, i3⟩, _⟩ := hN.2.2.2.2.1 x hx hb.1
    exact ⟨i, i2, by unfold wtq; rw [i3]; exact hb⟩
  · rintro ⟨j, hj, hw⟩
    refine ⟨a 53 j, (hN.2.2.1 j hj).1, ?_⟩
    rw [Bool.and_eq_true, beq_iff_eq, beq_iff_eq]
    exact hw
theorem rfs_skip {h : Nat} : ∀ (m q : Nat) (u : WW) (f : Nat), q ≤ f → f ≤ q + m → (∀ j, q ≤ j → j < f → ¬ wtq u h j) → rfs h m q u = rfs h (q + m - f) f u
  | 0, q, u, f, h1, h2, _ => by rw [show f = q by omega, show q + 0 - q = 0 by omega]
  | m + 1, q, u, f, h1, h2, h3 => by
    by_cases e : q = f
    · subst e; rw [show q + (m + 1) - q = m + 1 by omega]
    · rw [rfs_s, if_neg (show ¬ (u 51 (u 53 q) = 11 ∧ u 17 (u 53 q / 32) = h) from h3 q (Nat.le_refl _) (by omega)), rfs_skip m (q + 1) u f (by omega) (by omega) (fun j j1 j2 => h3 j (by omega) j2), show q + 1 + m - f = q + (m + 1) - f by omega]
theorem Rl.c54 {a v : WW} (h : Rl a v) (i n : Nat) : Rl (up2 a 54 i n) v := h.cong (fun k _ hk => up2_k _ _ _ _ hk) rfl rfl
theorem RFI.qo {u : WW} {h q c : Nat} (H : RFI u h q c) : QO u := QO.of H.1.2.1 H.1.2.2.1 H.2.1
set_option maxRecDepth 20000 in
theorem ml_112r {d a h : Nat} {v0 : WW} {τ : Nat → Nat → Int64} {Post : Option Value → Sto → Prop} : ∀ (nn : Nat) (q c : Nat) (u v : WW) (z : Int32), RFI u h q c → Rl u v → FV v0 v → u 50 1 = a → q ≤ a → FSTI u h z → (∀ v, Rl (rfs h (a - q) q u) v → FV v0 v → Post none (stt (nw v) τ)) → a - q < nn → RU_112 (d + 1) (0, 0) Post 29 [(2, .int z), (0, .ref 57), (1, .int (nI h))] [] (stt (nw v) τ) 0 0 := by
  intro nn
  induction nn with
  | zero => intro q c u v z H hR hV ha hq hz hp hms; exact absurd hms (by omega)
  | succ nn ih =>
    intro q c u v z H hR hV ha hq hz hp hms
    have hh := H.2.2.1
    have e97 := hR.2.2.2.2.2.1.1
    have hQ := H.qo
    have hQ1 := hQ.1
    refine R_seg sg_112_29 sk_112_29 (pc' := 31) (lv' := [(2, .int z), (0, .ref 57), (1, .int (nI h))]) (st' := [.int (-1), .int z]) (S' := stt (nw v) τ) (kc' := 0) (ks' := 0) rfl ⟨trivial, trivial, trivial⟩ ?_
    refine R_icmp ck_112_31 (fun (c_31 : z = (-1)) => ?_) (fun (c_31 : ¬ z = (-1)) => ?_)
    · refine R_ret ck_112_54 rfl ?_
      rcases hz with ⟨f, f1, rfl, f3, f4⟩ | ⟨_, e⟩
      · exact absurd c_31 (nI_m1 (by omega))
      rw [rfs_skip (a - q) q u a (by omega) (by omega) (fun j _ hj => e j (by omega)), show q + (a - q) - a = 0 by omega] at hp
      exact hp v hR hV
    · rcases hz with ⟨f, f1, rfl, f3, f4⟩ | ⟨e, _⟩
      rotate_left
      · exact absurd e c_31
      have hqf : q ≤ f := by rcases Nat.lt_or_ge f q with y | y; exact absurd f3 (H.2.2.2 f y); exact y
      have hxf : u 53 f < 192 := (H.1.2.2.1 f f1).1
      have H2 : RFI u h f c := ⟨H.1, H.2.1, H.2.2.1, fun i hi => f4 i hi⟩
      have HF := H2.go f1 f3
      refine R_seg sg_112_34 sk_112_34 (pc' := 40) (lv' := [(2, .int (nI f)), (0, .ref 57), (1, .int (nI h))]) (st' := [.int (nI f), .ref 97, .ref 57]) (S' := stt (nw v) τ) (kc' := 0) (ks' := 0) rfl ⟨trivial, trivial, rfl, trivial, trivial⟩ ?_
      refine R_iald ca_112_40 (j := f) rfl rfl (by omega) ?_
      show RU_112 (d + 1) (0, 0) Post 41 ([(2, .int (nI f)), (0, .ref 57), (1, .int (nI h))]) ([.int (nI (v 97 f)), .ref 57]) (stt (nw v) τ) 0 0
      rw [show v 97 f = u 53 f from congrFun e97 f]
      refine R_seg sg_112_41 sk_112_41 (pc' := 42) (lv' := [(2, .int (nI f)), (0, .ref 57), (1, .int (nI h))]) (st' := [.int 4, .int (nI (u 53 f)), .ref 57]) (S' := stt (nw v) τ) (kc' := 0) (ks' := 0) rfl ⟨trivial, trivial⟩ ?_
      refine R_virt ck_112_42 57 [.int (nI (u 53 f)), .int 4] 0 0 (r := []) rfl rfl rfl (Nat.le_of_ble_eq_true rfl) (Nat.le_refl _) (Nat.le_refl _) ?_
      refine x_104 (d := d) (σ := nw v) hxf ?_
      rw [nw_up (v := 4) (n := 4) rfl, nw_up (v := 4) (n := 4) rfl]
      show RU_112 (d + 1) (0, 0) Post 45 ([(2, .int (nI f)), (0, .ref 57), (1, .int (nI h))]) ([]) (stt (nw (up2 (up2 v 94 (u 53 f) 4) 95 (u 53 f) 4)) τ) 0 0
      refine R_seg sg_112_45 sk_112_45 (pc' := 47) (lv' := [(2, .int (nI f)), (0, .ref 57), (1, .int (nI h))]) (st' := [.int (nI h), .ref 57]) (S' := stt (nw (up2 (up2 v 94 (u 53 f) 4) 95 (u 53 f) 4)) τ) (kc' := 0) (ks' := 0) rfl ⟨trivial, trivial, trivial⟩ ?_
      refine R_virt ck_112_47 57 [.int (nI h)] 0 0 (r := []) rfl rfl rfl (Nat.le_of_ble_eq_true rfl) (Nat.le_refl _) (Nat.le_refl _) ?_
      have hR4 : Rl (up2 u 51 (u 53 f) 4) (up2 (up2 v 94 (u 53 f) 4) 95 (u 53 f) 4) := hR.null (u 53 f) rfl
      refine m_113 (d := d) (a := up2 u 51 (u 53 f) 4) HF.qo hh hR4 (fun z2 hz2 => ?_)
      show RU_112 (d + 1) (0, 0) Post 50 ([(2, .int (nI f)), (0, .ref 57), (1, .int (nI h))]) ([.int z2]) (stt (nw (up2 (up2 v 94 (u 53 f) 4) 95 (u 53 f) 4)) τ) 0 0
      refine R_seg sg_112_50 sk_112_50 (pc' := 51) (lv' := [(2, .int z2), (0, .ref 57), (1, .int (nI h))]) (st' := []) (S' := stt (nw (up2 (up2 v 94 (u 53 f) 4) 95 (u 53 f) 4)) τ) (kc' := 0) (ks' := 0) rfl ⟨(by decide), trivial⟩ ?_
      refine R_goto ck_112_51 ?_
      refine Runs.lv (lv := [(2, .int z2), (0, .ref 57), (1, .int (nI h))]) ?_ _ (lvS_l (show ([2, 0, 1] : List Nat).Nodup from by decide) (by intro q hq; simp only [List.mem_cons, List.not_mem_nil, or_false] at hq; rcases hq with rfl | rfl | rfl <;> rfl))
      exact ih (f + 1) (c - 1) (up2 u 51 (u 53 f) 4) _ z2 HF hR4 ((hV.up rfl).up rfl) ha (by omega) hz2 (by rw [rfs_skip (a - q) q u f hqf (by omega) (fun j _ hj => f4 j hj), show q + (a - q) - f = a - (f + 1) + 1 by omega, rfs_s, if_pos (show u 51 (u 53 f) = 11 ∧ u 17 (u 53 f / 32) = h from f3)] at hp; exact hp) (by omega)
set_option maxRecDepth 20000 in
theorem ml_112c {d h : Nat} {v0 : WW} {τ : Nat → Nat → Int64} {Post : Option Value → Sto → Prop} (hh : h < 5) : ∀ (nn : Nat) (m : Nat) (u v : WW) (z : Int32), NI u → SO u → 1 ≤ u (11 + h) 1 ∧ u (11 + h) 1 ≤ 8 → u (11 + h) 5 = 1 → Rl u v → FV v0 v → FSTI u h z → (∀ v, Rl (mks h m u) v → FV v0 v → Post none (stt (nw v) τ)) → m < nn ∧ m ≤ 8 → RU_112 (d + 1) (0, 0) Post 96 [(3, .int z), (2, .int (nI m)), (0, .ref 57), (1, .int (nI h))] [] (stt (nw v) τ) 0 0 := by
  intro nn
  induction nn with
  | zero => intro m u v z hN hS hbt hcl hR hV hz hp hms; exact absurd hms (by omega)
  | succ nn ih =>
    intro m u v z hN hS hbt hcl hR hV hz hp hms
    have hQ := QO.of hN.2.1 hN.2.2.1 hS
    have hQ1 := hQ.1
    have hH := hR.1.2.2.1 h hh
    have e59 := hH.2.1
    have e64 : v 64 h = N1 := by rw [(hR.2.2.1 h hh).2.2, if_neg (by omega)]
    refine R_seg sg_112_96 sk_112_96 (pc' := 98) (lv' := [(3, .int z), (2, .int (nI m)), (0, .ref 57), (1, .int (nI h))]) (st' := [.int (-1), .int z]) (S' := stt (nw v) τ) (kc' := 0) (ks' := 0) rfl ⟨trivial, trivial, trivial⟩ ?_
    refine R_icmp ck_112_98 (fun (c_98 : z = (-1)) => ?_) (fun (c_98 : ¬ z = (-1)) => ?_)
    · refine R_ret ck_112_143 rfl ?_
      first | (rcases hz with ⟨f, f1, rfl, f3, f4⟩ | ⟨_, e⟩; exact absurd c_98 (nI_m1 (by omega)); cases m with | zero => exact hp v hR hV | succ m => (rw [mks_s, if_neg (fun y => by obtain ⟨j, j1, j2⟩ := (FST_w hN hS hh).mp y; exact e j j1 j2)] at hp; exact hp v hR hV)) | (rw [show m = 0 by omega] at hp; exact hp v hR hV)
    · rcases hz with ⟨f, f1, rfl, f3, f4⟩ | ⟨e, _⟩
      rotate_left
      · exact absurd e c_98
      refine R_seg sg_112_101 sk_112_101 (pc' := 102) (lv' := [(3, .int (nI f)), (2, .int (nI m)), (0, .ref 57), (1, .int (nI h))]) (st' := [.int (nI m)]) (S' := stt (nw v) τ) (kc' := 0) (ks' := 0) rfl ⟨trivial, trivial⟩ ?_
      refine R_if ck_112_102 (fun (c_102 : (nI m) ≤ 0) => ?_) (fun (c_102 : ¬ (nI m) ≤ 0) => ?_)
      · have c_102 : m ≤ 0 := (nI_leI (a := m) (b := 0) (by omega) (by omega)).mp c_102
        refine R_ret ck_112_143 rfl ?_
        first | (rcases hz with ⟨f, f1, rfl, f3, f4⟩ | ⟨_, e⟩; exact absurd c_98 (nI_m1 (by omega)); cases m with | zero => exact hp v hR hV | succ m => (rw [mks_s, if_neg (fun y => by obtain ⟨j, j1, j2⟩ := (FST_w hN hS hh).mp y; exact e j j1 j2)] at hp; exact hp v hR hV)) | (rw [show m = 0 by omega] at hp; exact hp v hR hV)
      · have c_102 : 0 < m := Nat.not_le.mp (fun zq => c_102 ((nI_leI (a := m) (b := 0) (by omega) (by omega)).mpr zq))
        obtain ⟨m, rfl⟩ : ∃ m', m = m' + 1 := ⟨m - 1, by omega⟩
        refine R_seg sg_112_105 sk_112_105 (pc' := 110) (lv' := [(3, .int (nI f)), (2, .int (nI (m + 1))), (0, .ref 57), (1, .int (nI h))]) (st' := [.int (nI h), .ref 64]) (S' := stt (nw v) τ) (kc' := 0) (ks' := 0) rfl ⟨trivial, rfl, trivial, trivial⟩ ?_
        refine R_iald ca_112_110 (j := h) rfl rfl (by omega) ?_
        refine R_seg sg_112_111 sk_112_111 (pc' := 112) (lv' := [(3, .int (nI f)), (2, .int (nI (m + 1))), (0, .ref 57), (1, .int (nI h))]) (st' := [.int (-1), .int (nI (v 64 h))]) (S' := stt (nw v) τ) (kc' := 0) (ks' := 0) rfl ⟨trivial, trivial⟩ ?_
        refine R_icmp ck_112_112 (fun (c_112 : (nI (v 64 h)) = (-1)) => ?_) (fun (c_112 : ¬ (nI (v 64 h)) = (-1)) => ?_)
        · refine R_seg sg_112_125 sk_112_125 (pc' := 128) (lv' := [(3, .int (nI f)), (2, .int (nI (m + 1))), (0, .ref 57), (1, .int (nI h))]) (st' := [.int (nI f), .int (nI h), .ref 57]) (S' := stt (nw v) τ) (kc' := 0) (ks' := 0) rfl ⟨trivial, trivial, trivial, trivial⟩ ?_
          refine R_virt ck_112_128 57 [.int (nI h), .int (nI f)] 0 0 (r := []) rfl rfl rfl (Nat.le_of_ble_eq_true rfl) (Nat.le_refl _) (Nat.le_refl _) ?_
          refine m_114 (d := d) hbt.1 hbt.2 hN hS f1 f3 e59 hR (fun v2 hR2 hV2 => ?_)
          rw [← aMake_first hN hbt.1 f1 f3 f4] at hR2
          show RU_112 (d + 1) (0, 0) Post 131 ([(3, .int (nI f)), (2, .int (nI (m + 1))), (0, .ref 57), (1, .int (nI h))]) ([]) (stt (nw v2) τ) 0 0
          refine R_seg sg_112_131 sk_112_131 (pc' := 136) (lv' := [(2, .int ((nI (m + 1)) + (-1))), (3, .int (nI f)), (0, .ref 57), (1, .int (nI h))]) (st' := [.int (nI h), .ref 57]) (S' := stt (nw v2) τ) (kc' := 0) (ks' := 0) rfl ⟨(by decide), trivial, trivial, trivial⟩ ?_
          rw [pk_m1 m]
          refine R_virt ck_112_136 57 [.int (nI h)] 0 0 (r := []) rfl rfl rfl (Nat.le_of_ble_eq_true rfl) (Nat.le_refl _) (Nat.le_refl _) ?_
          have fm := aMake_fr (w := u) hh
          have N2 := aMake_ni hN hS hbt.2
          have S2 : SO (aMake h u) := hS.fr2 (fun k hk => fm.1 k hk.2)
          refine m_113 (d := d) (a := aMake h u) (QO.of N2.2.1 N2.2.2.1 S2) hh hR2 (fun z2 hz2 => ?_)
          show RU_112 (d + 1) (0, 0) Post 139 ([(2, .int (nI m)), (3, .int (nI f)), (0, .ref 57), (1, .int (nI h))]) ([.int z2]) (stt (nw v2) τ) 0 0
          refine R_seg sg_112_139 sk_112_139 (pc' := 140) (lv' := [(3, .int z2), (2, .int (nI m)), (0, .ref 57), (1, .int (nI h))]) (st' := []) (S' := stt (nw v2) τ) (kc' := 0) (ks' := 0) rfl ⟨(by decide), trivial⟩ ?_
          refine R_goto ck_112_140 ?_
          refine Runs.lv (lv := [(3, .int z2), (2, .int (nI m)), (0, .ref 57), (1, .int (nI h))]) ?_ _ (lvS_l (show ([3, 2, 0, 1] : List Nat).Nodup from by decide) (by intro q hq; simp only [List.mem_cons, List.not_mem_nil, or_false] at hq; rcases hq with rfl | rfl | rfl | rfl <;> rfl))
          exact ih m (aMake h u) v2 z2 N2 S2 (by rw [fm.1 (11 + h) (by omega)]; exact hbt) (by rw [fm.1 (11 + h) (by omega)]; exact hcl) hR2 (hV.tr hV2) hz2 (by rw [mks_s, if_pos ((FST_w hN hS hh).mpr ⟨f, f1, f3⟩)] at hp; exact hp) (by omega)
        · exact absurd e64 (fun y => c_112 (by rw [y]; rfl))
theorem Rl.tri {a v : WW} (hR : Rl a v) {h : Nat} (hh : h < 5) : Rl (up2 a (11 + h) 8 (a 42 5)) (up2 v 65 h (v 57 51)) := by
  obtain ⟨h1, h2, h3, h4, h5, h6, h7, h8⟩ := hR
  have e : ∀ k, k ≠ 11 + h → (up2 a (11 + h) 8 (a 42 5)) k = a k := fun k hk => up2_k _ _ _ _ hk
  refine ⟨h1.fr ⟨fun k k1 _ _ _ k5 => e k (by omega), fun g hg i hi => ?_, by rw [e 50 (by omega)]⟩ ((FV.rf v).up rfl), ?_, fun g hg => ?_, ?_, ?_, ?_, ?_, ?_⟩
  · by_cases z : g = h
    · subst z; exact up2_d _ _ _ _ (by omega)
    · rw [e (11 + g) (by omega)]
  · unfold RT; rw [e 1 (by omega), e 5 (by omega)]; exact h2
  · have q := h3 g hg
    by_cases z : g = h
    · subst z
      rw [up2_d a _ _ _ (show 6 ≠ 8 by decide), up2_d a _ _ _ (show 5 ≠ 8 by decide), up2_d a _ _ _ (show 7 ≠ 8 by decide)]
      refine ⟨q.1, ?_, q.2.2⟩
      rw [up2_c, up2_c]; exact h5.2.1
    · rw [e (11 + g) (by omega)]
      refine ⟨q.1, ?_, q.2.2⟩
      show va_up (v 65) h (v 57 51) g = _
      rw [va_up_ne _ _ z]; exact q.2.1
  · rw [e 25 (by omega), e 1 (by omega)]; exact h4
  · unfold RC; rw [e 42 (by omega), e 43 (by omega), e 44 (by omega), e 45 (by omega), e 46 (by omega), e 47 (by omega), e 48 (by omega), e 49 (by omega)]; exact h5
  · unfold RQ; rw [e 53 (by omega), e 50 (by omega)]; exact h6
  · rw [e 51 (by omega)]; exact h7
  · rw [e 52 (by omega)]; exact h8
set_option maxRecDepth 20000 in
theorem m_112 {d h : Nat} {a v : WW} {τ : Nat → Nat → Int64} {Post : Option Value → Sto → Prop} (hh : h < 5) (M : MI a) (hR : Rl a v) (hp : ∀ v', Rl (if 0 < a 54 h then aTurn h a else a) v' → FV v v' → Post none (stt (nw v') τ)) : Ex (d + 2) 112 [.ref 57, .int (nI h)] (stt (nw v) τ) 0 0 Post := by
  obtain ⟨hS, h2, h3, hN, h5, h6, h7, h8, h9a⟩ := id M
  have hH := h5 h hh
  have hQ := QO.of hN.2.1 hN.2.2.1 hS
  have hQ1 := hQ.1
  have h9 := hN.2.2.2.2.2.2.1.1
  have hRH := hR.1.2.2.1 h hh
  have hRT := hR.2.2.1 h hh
  have e64 := hRT.2.2
  have b7 := hH.2.2.2.2.2.2.2.1
  have b64 : v 64 h < 2147483648 ∨ v 64 h = N1 := by rw [e64]; split; left; omega; right; rfl
  have e1 := hR.2.1.1
  have hk1 := h3.1
  have hl := hN.2.2.2.2.2.2.2.2.1
  have hkk := hN.2.2.2.2.2.2.2.1
  have hk3 : a 42 9 ≤ 192 := by unfold NIk at hkk; omega
  have e51 := hR.2.2.2.2.1.2.1
  have h8b : a (11 + h) 8 < 2147483648 ∨ a (11 + h) 8 = N1 := by rcases h7 h hh with z | z; exact Or.inr z; exact Or.inl (by omega)
  refine en_112 (Nat.le_of_ble_eq_true rfl) ?_
  show RU_112 (d + 1) (0, 0) Post 0 ([(0, .ref 57), (1, .int (nI h))]) ([]) (stt (nw v) τ) 0 0
  refine R_seg sg_112_0 sk_112_0 (pc' := 5) (lv' := [(0, .ref 57), (1, .int (nI h))]) (st' := [.int (nI h), .ref 64]) (S' := stt (nw v) τ) (kc' := 0) (ks' := 0) rfl ⟨trivial, rfl, trivial, trivial⟩ ?_
  refine R_iald ca_112_5 (j := h) rfl rfl (by omega) ?_
  refine R_seg sg_112_6 sk_112_6 (pc' := 7) (lv' := [(0, .ref 57), (1, .int (nI h))]) (st' := [.int (-1), .int (nI (v 64 h))]) (S' := stt (nw v) τ) (kc' := 0) (ks' := 0) rfl ⟨trivial, trivial⟩ ?_
  refine R_icmp ck_112_7 (fun (c_7 : (nI (v 64 h)) = (-1)) => ?_) (fun (c_7 : ¬ (nI (v 64 h)) = (-1)) => ?_)
  · have hcl : ¬ a (11 + h) 5 = 0 := fun y => by rw [if_pos y] at e64; have z := (nI_N1 b64).mp c_7; have b7 := hH.2.2.2.2.2.2.2.1; rw [e64] at z; exact absurd (show a (11 + h) 7 = 4294967295 from z) (by omega)
    have z64 : v 64 h = N1 := (nI_N1 b64).mp c_7
    refine R_seg sg_112_55 sk_112_55 (pc' := 60) (lv' := [(0, .ref 57), (1, .int (nI h))]) (st' := [.int (nI h), .ref 64]) (S' := stt (nw v) τ) (kc' := 0) (ks' := 0) rfl ⟨trivial, rfl, trivial, trivial⟩ ?_
    refine R_iald ca_112_60 (j := h) rfl rfl (by omega) ?_
    refine R_seg sg_112_61 sk_112_61 (pc' := 62) (lv' := [(0, .ref 57), (1, .int (nI h))]) (st' := [.int (-1), .int (nI (v 64 h))]) (S' := stt (nw v) τ) (kc' := 0) (ks' := 0) rfl ⟨trivial, trivial⟩ ?_
    refine R_icmp ck_112_62 (fun (c_62 : ¬ (nI (v 64 h)) = (-1)) => ?_) (fun (c_62 : ¬ ¬ (nI (v 64 h)) = (-1)) => ?_)
    · exact absurd ((nI_N1 b64).mpr z64) c_62
    · skip
      refine R_seg sg_112_65 sk_112_65 (pc' := 70) (lv' := [(0, .ref 57), (1, .int (nI h))]) (st' := [.int (nI h), .ref 60]) (S' := stt (nw v) τ) (kc' := 0) (ks' := 0) rfl ⟨trivial, rfl, trivial, trivial⟩ ?_
      refine R_iald ca_112_70 (j := h) rfl rfl (by omega) ?_
      refine R_goto ck_112_71 ?_
      refine R_seg sg_112_89 sk_112_89 (pc' := 92) (lv' := [(2, .int (nI (v 60 h))), (0, .ref 57), (1, .int (nI h))]) (st' := [.int (nI h), .ref 57]) (S' := stt (nw v) τ) (kc' := 0) (ks' := 0) rfl ⟨(by decide), trivial, trivial, trivial⟩ ?_
      refine R_virt ck_112_92 57 [.int (nI h)] 0 0 (r := []) rfl rfl rfl (Nat.le_of_ble_eq_true rfl) (Nat.le_refl _) (Nat.le_refl _) ?_
      refine m_113 (d := d) hQ hh hR (fun z hz => ?_)
      show RU_112 (d + 1) (0, 0) Post 95 ([(2, .int (nI (v 60 h))), (0, .ref 57), (1, .int (nI h))]) ([.int z]) (stt (nw v) τ) 0 0
      refine R_seg sg_112_95 sk_112_95 (pc' := 96) (lv' := [(3, .int z), (2, .int (nI (v 60 h))), (0, .ref 57), (1, .int (nI h))]) (st' := []) (S' := stt (nw v) τ) (kc' := 0) (ks' := 0) rfl ⟨(by decide), trivial⟩ ?_
      refine Runs.lv (lv := [(3, .int z), (2, .int (nI (v 60 h))), (0, .ref 57), (1, .int (nI h))]) ?_ _ (lvS_l (show ([3, 2, 0, 1] : List Nat).Nodup from by decide) (by intro q hq; simp only [List.mem_cons, List.not_mem_nil, or_false] at hq; rcases hq with rfl | rfl | rfl | rfl <;> rfl))
      rw [show v 60 h = a (11 + h) 2 from hRH.2.2.1]
      have c1 : a (11 + h) 5 = 1 := by have := hH.2.2.2.2.2.1; omega
      refine ml_112c (d := d) hh 9 (a (11 + h) 2) a v z hN hS hH.2.1 c1 hR (FV.rf v) hz (fun v2 hR2 hV2 => hp v2 ?_ hV2) (by omega)
      by_cases y : 0 < a 54 h
      · rw [if_pos y]; unfold aTurn; rw [if_neg (fun q => by omega), if_neg (by omega)]; exact hR2
      · rw [if_neg y]
        cases hm : a (11 + h) 2 with
        | zero => rw [hm] at hR2; exact hR2
        | succ m => rw [hm, mks_s, if_neg y] at hR2; exact hR2
  · have h64n : ¬ v 64 h = N1 := fun z => c_7 ((nI_N1 b64).mpr z)
    have hcl : a (11 + h) 5 = 0 := by rcases Nat.eq_zero_or_pos (a (11 + h) 5) with z | z; exact z; exact absurd (by rw [e64, if_neg (by omega)]) h64n
    have e64b : v 64 h = a (11 + h) 7 := by rw [e64, if_pos hcl]
    refine R_seg sg_112_10 sk_112_10 (pc' := 19) (lv' := [(0, .ref 57), (1, .int (nI h))]) (st' := [.int (nI h), .ref 64, .int (nI (v 57 1))]) (S' := stt (nw v) τ) (kc' := 0) (ks' := 0) rfl ⟨trivial, rfl, trivial, rfl, trivial, trivial⟩ ?_
    refine R_iald ca_112_19 (j := h) rfl rfl (by omega) ?_
    refine R_icmp ck_112_20 (fun (c_20 : (nI (v 64 h)) ≤ (nI (v 57 1))) => ?_) (fun (c_20 : ¬ (nI (v 64 h)) ≤ (nI (v 57 1))) => ?_)
    · have c_20 : (v 64 h) ≤ (v 57 1) := (nI_leI (a := (v 64 h)) (b := (v 57 1)) (by omega) (by omega)).mp c_20
      have hop : ¬ (a (11 + h) 5 = 0 ∧ a 1 4 < a (11 + h) 7) := fun y => by have := y.2; omega
      refine R_seg sg_112_55 sk_112_55 (pc' := 60) (lv' := [(0, .ref 57), (1, .int (nI h))]) (st' := [.int (nI h), .ref 64]) (S' := stt (nw v) τ) (kc' := 0) (ks' := 0) rfl ⟨trivial, rfl, trivial, trivial⟩ ?_
      refine R_iald ca_112_60 (j := h) rfl rfl (by omega) ?_
      refine R_seg sg_112_61 sk_112_61 (pc' := 62) (lv' := [(0, .ref 57), (1, .int (nI h))]) (st' := [.int (-1), .int (nI (v 64 h))]) (S' := stt (nw v) τ) (kc' := 0) (ks' := 0) rfl ⟨trivial, trivial⟩ ?_
      refine R_icmp ck_112_62 (fun (c_62 : ¬ (nI (v 64 h)) = (-1)) => ?_) (fun (c_62 : ¬ ¬ (nI (v 64 h)) = (-1)) => ?_)
      · skip
        refine R_seg sg_112_74 sk_112_74 (pc' := 79) (lv' := [(0, .ref 57), (1, .int (nI h))]) (st' := [.int (nI h), .ref 65]) (S' := stt (nw v) τ) (kc' := 0) (ks' := 0) rfl ⟨trivial, rfl, trivial, trivial⟩ ?_
        refine R_iald ca_112_79 (j := h) rfl rfl (by omega) ?_
        refine R_seg sg_112_80 sk_112_80 (pc' := 81) (lv' := [(0, .ref 57), (1, .int (nI h))]) (st' := [.int (-1), .int (nI (v 65 h))]) (S' := stt (nw v) τ) (kc' := 0) (ks' := 0) rfl ⟨trivial, trivial⟩ ?_
        refine R_icmp ck_112_81 (fun (c_81 : ¬ (nI (v 65 h)) = (-1)) => ?_) (fun (c_81 : ¬ ¬ (nI (v 65 h)) = (-1)) => ?_)
        · have htr : ¬ a (11 + h) 8 = N1 := fun y => c_81 ((nI_N1 (by rw [hRT.2.1]; exact h8b)).mpr (by rw [hRT.2.1]; exact y))
          refine R_seg sg_112_88 sk_112_88 (pc' := 89) (lv' := [(0, .ref 57), (1, .int (nI h))]) (st' := [.int 0]) (S' := stt (nw v) τ) (kc' := 0) (ks' := 0) rfl ⟨trivial, trivial⟩ ?_
          refine R_seg sg_112_89 sk_112_89 (pc' := 92) (lv' := [(2, .int 0), (0, .ref 57), (1, .int (nI h))]) (st' := [.int (nI h), .ref 57]) (S' := stt (nw v) τ) (kc' := 0) (ks' := 0) rfl ⟨(by decide), trivial, trivial, trivial⟩ ?_
          refine R_virt ck_112_92 57 [.int (nI h)] 0 0 (r := []) rfl rfl rfl (Nat.le_of_ble_eq_true rfl) (Nat.le_refl _) (Nat.le_refl _) ?_
          refine m_113 (d := d) hQ hh hR (fun z hz => ?_)
          show RU_112 (d + 1) (0, 0) Post 95 ([(2, .int 0), (0, .ref 57), (1, .int (nI h))]) ([.int z]) (stt (nw v) τ) 0 0
          refine R_seg sg_112_95 sk_112_95 (pc' := 96) (lv' := [(3, .int z), (2, .int 0), (0, .ref 57), (1, .int (nI h))]) (st' := []) (S' := stt (nw v) τ) (kc' := 0) (ks' := 0) rfl ⟨(by decide), trivial⟩ ?_
          refine R_seg sg_112_96 sk_112_96 (pc' := 98) (lv' := [(3, .int z), (2, .int 0), (0, .ref 57), (1, .int (nI h))]) (st' := [.int (-1), .int z]) (S' := stt (nw v) τ) (kc' := 0) (ks' := 0) rfl ⟨trivial, trivial, trivial⟩ ?_
          refine R_icmp ck_112_98 (fun (c_98 : z = (-1)) => ?_) (fun (c_98 : ¬ z = (-1)) => ?_)
          · refine R_ret ck_112_143 rfl ?_
            refine hp v ?_ (FV.rf v)
            by_cases y : 0 < a 54 h
            · rw [if_pos y]; unfold aTurn; rw [if_neg hop, if_pos hcl, if_neg htr]; exact hR
            · rw [if_neg y]; exact hR
          · skip
            refine R_seg sg_112_101 sk_112_101 (pc' := 102) (lv' := [(3, .int z), (2, .int 0), (0, .ref 57), (1, .int (nI h))]) (st' := [.int 0]) (S' := stt (nw v) τ) (kc' := 0) (ks' := 0) rfl ⟨trivial, trivial⟩ ?_
            refine R_if ck_112_102 (fun _ => ?_) (fun c => absurd (show (0 : Int32) ≤ 0 from by decide) c)
            refine R_ret ck_112_143 rfl ?_
            refine hp v ?_ (FV.rf v)
            by_cases y : 0 < a 54 h
            · rw [if_pos y]; unfold aTurn; rw [if_neg hop, if_pos hcl, if_neg htr]; exact hR
            · rw [if_neg y]; exact hR
        · have htr : a (11 + h) 8 = N1 := by rw [← hRT.2.1]; exact (nI_N1 (by rw [hRT.2.1]; exact h8b)).mp (Classical.not_not.mp c_81)
          refine R_seg sg_112_84 sk_112_84 (pc' := 85) (lv' := [(0, .ref 57), (1, .int (nI h))]) (st' := [.int 1]) (S' := stt (nw v) τ) (kc' := 0) (ks' := 0) rfl ⟨trivial, trivial⟩ ?_
          refine R_goto ck_112_85 ?_
          refine R_seg sg_112_89 sk_112_89 (pc' := 92) (lv' := [(2, .int 1), (0, .ref 57), (1, .int (nI h))]) (st' := [.int (nI h), .ref 57]) (S' := stt (nw v) τ) (kc' := 0) (ks' := 0) rfl ⟨(by decide), trivial, trivial, trivial⟩ ?_
          refine R_virt ck_112_92 57 [.int (nI h)] 0 0 (r := []) rfl rfl rfl (Nat.le_of_ble_eq_true rfl) (Nat.le_refl _) (Nat.le_refl _) ?_
          refine m_113 (d := d) hQ hh hR (fun z hz => ?_)
          show RU_112 (d + 1) (0, 0) Post 95 ([(2, .int 1), (0, .ref 57), (1, .int (nI h))]) ([.int z]) (stt (nw v) τ) 0 0
          refine R_seg sg_112_95 sk_112_95 (pc' := 96) (lv' := [(3, .int z), (2, .int 1), (0, .ref 57), (1, .int (nI h))]) (st' := []) (S' := stt (nw v) τ) (kc' := 0) (ks' := 0) rfl ⟨(by decide), trivial⟩ ?_
          refine R_seg sg_112_96 sk_112_96 (pc' := 98) (lv' := [(3, .int z), (2, .int 1), (0, .ref 57), (1, .int (nI h))]) (st' := [.int (-1), .int z]) (S' := stt (nw v) τ) (kc' := 0) (ks' := 0) rfl ⟨trivial, trivial, trivial⟩ ?_
          refine R_icmp ck_112_98 (fun (c_98 : z = (-1)) => ?_) (fun (c_98 : ¬ z = (-1)) => ?_)
          · refine R_ret ck_112_143 rfl ?_
            rcases hz with ⟨f, f1, rfl, f3, f4⟩ | ⟨_, e⟩
            · exact absurd c_98 (nI_m1 (by omega))
            refine hp v ?_ (FV.rf v)
            rw [if_neg (fun y => by obtain ⟨j, j1, j2⟩ := (FST_w hN hS hh).mp y; exact e j j1 j2)]
            exact hR
          · rcases hz with ⟨f, f1, rfl, f3, f4⟩ | ⟨e, _⟩
            rotate_left
            · exact absurd e c_98
            refine R_seg sg_112_101 sk_112_101 (pc' := 102) (lv' := [(3, .int (nI f)), (2, .int 1), (0, .ref 57), (1, .int (nI h))]) (st' := [.int 1]) (S' := stt (nw v) τ) (kc' := 0) (ks' := 0) rfl ⟨trivial, trivial⟩ ?_
            refine R_if ck_112_102 (fun c => absurd c (show ¬ (1 : Int32) ≤ 0 from by decide)) (fun _ => ?_)
            refine R_seg sg_112_105 sk_112_105 (pc' := 110) (lv' := [(3, .int (nI f)), (2, .int 1), (0, .ref 57), (1, .int (nI h))]) (st' := [.int (nI h), .ref 64]) (S' := stt (nw v) τ) (kc' := 0) (ks' := 0) rfl ⟨trivial, rfl, trivial, trivial⟩ ?_
            refine R_iald ca_112_110 (j := h) rfl rfl (by omega) ?_
            refine R_seg sg_112_111 sk_112_111 (pc' := 112) (lv' := [(3, .int (nI f)), (2, .int 1), (0, .ref 57), (1, .int (nI h))]) (st' := [.int (-1), .int (nI (v 64 h))]) (S' := stt (nw v) τ) (kc' := 0) (ks' := 0) rfl ⟨trivial, trivial⟩ ?_
            refine R_icmp ck_112_112 (fun (c_112 : (nI (v 64 h)) = (-1)) => ?_) (fun (c_112 : ¬ (nI (v 64 h)) = (-1)) => ?_)
            · exact absurd c_112 (fun y => h64n ((nI_N1 b64).mp y))
            · refine R_seg sg_112_115 sk_112_115 (pc' := 124) (lv' := [(3, .int (nI f)), (2, .int 1), (0, .ref 57), (1, .int (nI h))]) (st' := [.int (nI (v 57 51)), .int (nI h), .ref 65]) (S' := stt (nw v) τ) (kc' := 0) (ks' := 0) rfl ⟨trivial, rfl, trivial, trivial, rfl, trivial⟩ ?_
              refine R_iast ca_112_124 (j := h) rfl rfl (by omega) ?_
              show RU_112 (d + 1) (0, 0) Post 125 ([(3, .int (nI f)), (2, .int 1), (0, .ref 57), (1, .int (nI h))]) ([]) (stt (up2 (nw v) 65 h (nI (v 57 51))) τ) 0 0
              rw [nw_up (w := v) (k := 65) (i := h) (v := nI (v 57 51)) (n := v 57 51) rfl]
              refine R_seg sg_112_125 sk_112_125 (pc' := 128) (lv' := [(3, .int (nI f)), (2, .int 1), (0, .ref 57), (1, .int (nI h))]) (st' := [.int (nI f), .int (nI h), .ref 57]) (S' := stt (nw (up2 v 65 h (v 57 51))) τ) (kc' := 0) (ks' := 0) rfl ⟨trivial, trivial, trivial, trivial⟩ ?_
              refine R_virt ck_112_128 57 [.int (nI h), .int (nI f)] 0 0 (r := []) rfl rfl rfl (Nat.le_of_ble_eq_true rfl) (Nat.le_refl _) (Nat.le_refl _) ?_
              have e : ∀ k, k ≠ 11 + h → (up2 a (11 + h) 8 (a 42 5)) k = a k := fun k hk => up2_k _ _ _ _ hk
              have eb : (up2 a (11 + h) 8 (a 42 5)) (11 + h) 1 = a (11 + h) 1 := up2_d _ _ _ _ (by decide)
              have n1 : NI (up2 a (11 + h) 8 (a 42 5)) := hN.fr (fun k hk => e k (by omega))
              have s1 : SO (up2 a (11 + h) 8 (a 42 5)) := hS.fr2 (fun k hk => e k (by omega))
              have hR8 : Rl (up2 a (11 + h) 8 (a 42 5)) (up2 v 65 h (v 57 51)) := hR.tri hh
              have w8 : ∀ j, wtq (up2 a (11 + h) 8 (a 42 5)) h j ↔ wtq a h j := fun j => by unfold wtq; rw [e 51 (by omega), e 53 (by omega), e 17 (by omega)]
              refine m_114 (d := d) (a := up2 a (11 + h) 8 (a 42 5)) (b := a (11 + h) 1) hH.2.1.1 hH.2.1.2 n1 s1 (by rw [e 50 (by omega)]; exact f1) ((w8 f).mpr f3) (hRH.2.1) hR8 (fun v2 hR2 hV2 => ?_)
              rw [← eb, ← aMake_first n1 (by rw [eb]; exact hH.2.1.1) (by rw [e 50 (by omega)]; exact f1) ((w8 f).mpr f3) (fun l hl y => f4 l hl ((w8 l).mp y))] at hR2
              show RU_112 (d + 1) (0, 0) Post 131 ([(3, .int (nI f)), (2, .int 1), (0, .ref 57), (1, .int (nI h))]) ([]) (stt (nw v2) τ) 0 0
              refine R_seg sg_112_131 sk_112_131 (pc' := 136) (lv' := [(2, .int 0), (3, .int (nI f)), (0, .ref 57), (1, .int (nI h))]) (st' := [.int (nI h), .ref 57]) (S' := stt (nw v2) τ) (kc' := 0) (ks' := 0) rfl ⟨(by decide), trivial, trivial, trivial⟩ ?_
              refine R_virt ck_112_136 57 [.int (nI h)] 0 0 (r := []) rfl rfl rfl (Nat.le_of_ble_eq_true rfl) (Nat.le_refl _) (Nat.le_refl _) ?_
              have fm := aMake_fr (w := up2 a (11 + h) 8 (a 42 5)) hh
              have N2 := aMake_ni n1 s1 (by rw [eb]; exact hH.2.1.2)
              have S2 : SO (aMake h (up2 a (11 + h) 8 (a 42 5))) := s1.fr2 (fun k hk => fm.1 k hk.2)
              refine m_113 (d := d) (a := aMake h (up2 a (11 + h) 8 (a 42 5))) (QO.of N2.2.1 N2.2.2.1 S2) hh hR2 (fun z2 hz2 => ?_)
              show RU_112 (d + 1) (0, 0) Post 139 ([(2, .int 0), (3, .int (nI f)), (0, .ref 57), (1, .int (nI h))]) ([.int z2]) (stt (nw v2) τ) 0 0
              refine R_seg sg_112_139 sk_112_139 (pc' := 140) (lv' := [(3, .int z2), (2, .int 0), (0, .ref 57), (1, .int (nI h))]) (st' := []) (S' := stt (nw v2) τ) (kc' := 0) (ks' := 0) rfl ⟨(by decide), trivial⟩ ?_
              refine R_goto ck_112_140 ?_
              refine R_seg sg_112_96 sk_112_96 (pc' := 98) (lv' := [(3, .int z2), (2, .int 0), (0, .ref 57), (1, .int (nI h))]) (st' := [.int (-1), .int z2]) (S' := stt (nw v2) τ) (kc' := 0) (ks' := 0) rfl ⟨trivial, trivial, trivial⟩ ?_
              refine R_icmp ck_112_98 (fun (c_98 : z2 = (-1)) => ?_) (fun (c_98 : ¬ z2 = (-1)) => ?_)
              · refine R_ret ck_112_143 rfl ?_
                exact hp v2 (by rw [if_pos ((FST_w hN hS hh).mpr ⟨f, f1, f3⟩)]; unfold aTurn; rw [if_neg hop, if_pos hcl, if_pos htr]; exact hR2) (((FV.rf v).up rfl).tr hV2)
              · refine R_seg sg_112_101 sk_112_101 (pc' := 102) (lv' := [(3, .int z2), (2, .int 0), (0, .ref 57), (1, .int (nI h))]) (st' := [.int 0]) (S' := stt (nw v2) τ) (kc' := 0) (ks' := 0) rfl ⟨trivial, trivial⟩ ?_
                refine R_if ck_112_102 (fun _ => ?_) (fun c => absurd (show (0 : Int32) ≤ 0 from by decide) c)
                refine R_ret ck_112_143 rfl ?_
                exact hp v2 (by rw [if_pos ((FST_w hN hS hh).mpr ⟨f, f1, f3⟩)]; unfold aTurn; rw [if_neg hop, if_pos hcl, if_pos htr]; exact hR2) (((FV.rf v).up rfl).tr hV2)
      · exact absurd ((nI_N1 b64).mp (Classical.not_not.mp c_62)) h64n
    · have c_20 : (v 57 1) < (v 64 h) := Nat.not_le.mp (fun zq => c_20 ((nI_leI (a := (v 64 h)) (b := (v 57 1)) (by omega) (by omega)).mpr zq))
      have c_20 : a 1 4 < a (11 + h) 7 := by omega
      refine R_seg sg_112_23 sk_112_23 (pc' := 25) (lv' := [(0, .ref 57), (1, .int (nI h))]) (st' := [.int (nI h), .ref 57]) (S' := stt (nw v) τ) (kc' := 0) (ks' := 0) rfl ⟨trivial, trivial, trivial⟩ ?_
      refine R_virt ck_112_25 57 [.int (nI h)] 0 0 (r := []) rfl rfl rfl (Nat.le_of_ble_eq_true rfl) (Nat.le_refl _) (Nat.le_refl _) ?_
      refine m_113 (d := d) hQ hh hR (fun z hz => ?_)
      show RU_112 (d + 1) (0, 0) Post 28 ([(0, .ref 57), (1, .int (nI h))]) ([.int z]) (stt (nw v) τ) 0 0
      refine R_seg sg_112_28 sk_112_28 (pc' := 29) (lv' := [(2, .int z), (0, .ref 57), (1, .int (nI h))]) (st' := []) (S' := stt (nw v) τ) (kc' := 0) (ks' := 0) rfl ⟨(by decide), trivial⟩ ?_
      refine Runs.lv (lv := [(2, .int z), (0, .ref 57), (1, .int (nI h))]) ?_ _ (lvS_l (show ([2, 0, 1] : List Nat).Nodup from by decide) (by intro q hq; simp only [List.mem_cons, List.not_mem_nil, or_false] at hq; rcases hq with rfl | rfl | rfl <;> rfl))
      refine ml_112r (d := d) (a := a 50 1) (a 50 1 - a 50 9 + 1) (a 50 9) (a 54 h) a v z (RFI.beg hN hS hh) hR (FV.rf v) rfl h9 hz (fun v2 hR2 hV2 => hp v2 ?_ hV2) (by omega)
      by_cases y : 0 < a 54 h
      · rw [if_pos y]; unfold aTurn; rw [if_pos ⟨hcl, c_20⟩]; exact hR2.c54 h 0
      · rw [if_neg y]
        rw [rfs_skip _ _ a (a 50 1) h9 (by omega) (fun j _ hj q => y ((FST_w hN hS hh).mpr ⟨j, hj, q⟩)), show a 50 9 + (a 50 1 - a 50 9) - a 50 1 = 0 by omega] at hR2
        exact hR2
