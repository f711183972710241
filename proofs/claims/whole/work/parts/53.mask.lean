/-! ===== the model's ask: its rounds ===== -/
set_option maxRecDepth 20000 in
theorem ml_102h {d as ty ke tk la : Nat} {O : Int32} {a v0 : WW} {τ : Nat → Nat → Int64} {Post : Option Value → Sto → Prop} (M : MI a) (hk : ∀ v, Rl (aTurns 5 a) v → FV v0 v → RU_102 (d + 20) (0, 0) Post 254 [(7, .int O), (6, .int (nI la)), (0, .ref 57), (1, .int (nI as)), (2, .int (nI ty)), (3, .int (nI ke)), (4, .int (nI tk))] [] (stt (nw v) τ) 0 0) : ∀ (nn : Nat) (h : Nat) (u v : WW), h ≤ 5 → u = aTurns h a → Rl u v → FV v0 v → 5 - h < nn → RU_102 (d + 20) (0, 0) Post 236 [(8, .int (nI h)), (7, .int O), (6, .int (nI la)), (0, .ref 57), (1, .int (nI as)), (2, .int (nI ty)), (3, .int (nI ke)), (4, .int (nI tk))] [] (stt (nw v) τ) 0 0 := by
  intro nn
  induction nn with
  | zero => intro h u v hh hu hR hV hms; exact absurd hms (by omega)
  | succ nn ih =>
    intro h u v hh hu hR hV hms
    refine R_seg sg_102_236 sk_102_236 (pc' := 239) (lv' := [(8, .int (nI h)), (7, .int O), (6, .int (nI la)), (0, .ref 57), (1, .int (nI as)), (2, .int (nI ty)), (3, .int (nI ke)), (4, .int (nI tk))]) (st' := [.int 5, .int (nI h)]) (S' := stt (nw v) τ) (kc' := 0) (ks' := 0) rfl ⟨trivial, trivial, trivial⟩ ?_
    refine R_icmp ck_102_239 (fun (c_239 : 5 ≤ (nI h)) => ?_) (fun (c_239 : ¬ 5 ≤ (nI h)) => ?_)
    · have c_239 : 5 ≤ h := (nI_leI (a := 5) (b := h) (by omega) (by omega)).mp c_239
      refine Runs.lv (lv := [(7, .int O), (6, .int (nI la)), (0, .ref 57), (1, .int (nI as)), (2, .int (nI ty)), (3, .int (nI ke)), (4, .int (nI tk))]) ?_ _ (lvS_l (show ([7, 6, 0, 1, 2, 3, 4] : List Nat).Nodup from by decide) (by intro q hq; simp only [List.mem_cons, List.not_mem_nil, or_false] at hq; rcases hq with rfl | rfl | rfl | rfl | rfl | rfl | rfl <;> rfl))
      have e5 : h = 5 := by omega
      subst e5
      subst hu
      exact hk v hR hV
    · have c_239 : h < 5 := Nat.not_le.mp (fun zq => c_239 ((nI_leI (a := 5) (b := h) (by omega) (by omega)).mpr zq))
      refine R_seg sg_102_242 sk_102_242 (pc' := 245) (lv' := [(8, .int (nI h)), (7, .int O), (6, .int (nI la)), (0, .ref 57), (1, .int (nI as)), (2, .int (nI ty)), (3, .int (nI ke)), (4, .int (nI tk))]) (st' := [.int (nI h), .ref 57]) (S' := stt (nw v) τ) (kc' := 0) (ks' := 0) rfl ⟨trivial, trivial, trivial⟩ ?_
      refine R_virt ck_102_245 57 [.int (nI h)] 0 0 (r := []) rfl rfl rfl (Nat.le_of_ble_eq_true rfl) (Nat.le_refl _) (Nat.le_refl _) ?_
      refine m_112 (d := d + 18) (by omega) (aTurns_mi M h (by omega)) (by rw [← hu]; exact hR) (fun v2 hR2 hV2 => ?_)
      show RU_102 (d + 20) (0, 0) Post 248 ([(8, .int (nI h)), (7, .int O), (6, .int (nI la)), (0, .ref 57), (1, .int (nI as)), (2, .int (nI ty)), (3, .int (nI ke)), (4, .int (nI tk))]) ([]) (stt (nw v2) τ) 0 0
      refine R_seg sg_102_248 sk_102_248 (pc' := 251) (lv' := [(8, .int ((nI h) + 1)), (7, .int O), (6, .int (nI la)), (0, .ref 57), (1, .int (nI as)), (2, .int (nI ty)), (3, .int (nI ke)), (4, .int (nI tk))]) (st' := []) (S' := stt (nw v2) τ) (kc' := 0) (ks' := 0) rfl ⟨(by decide), trivial⟩ ?_
      refine R_goto ck_102_251 ?_
      refine Runs.lv (lv := [(8, .int ((nI h) + 1)), (7, .int O), (6, .int (nI la)), (0, .ref 57), (1, .int (nI as)), (2, .int (nI ty)), (3, .int (nI ke)), (4, .int (nI tk))]) ?_ _ (lvS_l (show ([8, 7, 6, 0, 1, 2, 3, 4] : List Nat).Nodup from by decide) (by intro q hq; simp only [List.mem_cons, List.not_mem_nil, or_false] at hq; rcases hq with rfl | rfl | rfl | rfl | rfl | rfl | rfl | rfl <;> rfl))
      rw [nI_1 h]
      exact ih (h + 1) _ v2 (by omega) rfl hR2 (hV.tr hV2) (by omega)
set_option maxRecDepth 20000 in
theorem ml_102z {d as ty ke tk la : Nat} {v : WW} {τ : Nat → Nat → Int64} {Post : Option Value → Sto → Prop} (hk : RU_102 (d + 20) (0, 0) Post 288 [(0, .ref 57), (1, .int (nI as)), (2, .int (nI ty)), (3, .int (nI ke)), (4, .int (nI tk))] [] (stt (nw v) τ) 0 0) : RU_102 (d + 20) (0, 0) Post 215 [(7, .int 0), (6, .int (nI la)), (0, .ref 57), (1, .int (nI as)), (2, .int (nI ty)), (3, .int (nI ke)), (4, .int (nI tk))] [] (stt (nw v) τ) 0 0 := by
  refine R_seg sg_102_215 sk_102_215 (pc' := 217) (lv' := [(7, .int 0), (6, .int (nI la)), (0, .ref 57), (1, .int (nI as)), (2, .int (nI ty)), (3, .int (nI ke)), (4, .int (nI tk))]) (st' := [.int 0]) (S' := stt (nw v) τ) (kc' := 0) (ks' := 0) rfl ⟨trivial, trivial⟩ ?_
  refine R_if ck_102_217 (fun _ => ?_) (fun c => absurd (show (0 : Int32) = 0 from by decide) c)
  refine Runs.lv (lv := [(0, .ref 57), (1, .int (nI as)), (2, .int (nI ty)), (3, .int (nI ke)), (4, .int (nI tk))]) ?_ _ (lvS_l (show ([0, 1, 2, 3, 4] : List Nat).Nodup from by decide) (by intro q hq; simp only [List.mem_cons, List.not_mem_nil, or_false] at hq; rcases hq with rfl | rfl | rfl | rfl | rfl <;> rfl))
  exact hk
set_option maxRecDepth 20000 in
theorem ml_102 {d as ty ke tk la ky : Nat} {v0 : WW} {τ : Nat → Nat → Int64} {Post : Option Value → Sto → Prop} : ∀ (nn : Nat) (m : Nat) (s v : WW), MI s → CI s ky → (∀ x, x < 192 → s 24 x ≤ 1) → AO s → Rl s v → FV v0 v → s 1 4 + m = la → la ≤ 100000 → (∀ v, Rl (rlp m (aBack s)) v → FV v0 v → RU_102 (d + 20) (0, 0) Post 288 [(0, .ref 57), (1, .int (nI as)), (2, .int (nI ty)), (3, .int (nI ke)), (4, .int (nI tk))] [] (stt (nw v) τ) 0 0) → m < nn → RU_102 (d + 20) (0, 0) Post 215 [(7, .int 1), (6, .int (nI la)), (0, .ref 57), (1, .int (nI as)), (2, .int (nI ty)), (3, .int (nI ke)), (4, .int (nI tk))] [] (stt (nw v) τ) 0 0 := by
  intro nn
  induction nn with
  | zero => intro m s v M hI h24 hA hR hV hlm hla hp hms; exact absurd hms (by omega)
  | succ nn ih =>
    intro m s v M hI h24 hA hR hV hlm hla hp hms
    have hK := M.2.2.1.1
    have M1 := aBack_mi M
    have I1 := aBack_ci M hI
    have bk : ∀ j, j < 42 → j ≠ 25 → j < 11 ∨ 16 ≤ j → aBack s j = s j := fun j j1 j2 j3 => aBack_k M j1 j2 j3
    have e14 : aBack s 1 4 = s 1 4 := by rw [bk 1 (by decide) (by decide) (by decide)]
    have A1 : AO (aBack s) := by unfold AO; rw [bk 2 (by decide) (by decide) (by decide), bk 3 (by decide) (by decide) (by decide), bk 4 (by decide) (by decide) (by decide), bk 5 (by decide) (by decide) (by decide)]; exact hA
    have h24b : ∀ x, x < 192 → aBack s 24 x ≤ 1 := by rw [bk 24 (by decide) (by decide) (by decide)]; exact h24
    have fo := aForget_ok M1
    have f42 : aForget (aBack s) 42 = aBack s 42 := fo.2.2 42 (by decide) (by decide) (by decide)
    have hl1 := M1.2.2.2.1.2.2.2.2.2.2.2.2.1
    have hkk1 := M1.2.2.2.1.2.2.2.2.2.2.2.1
    have hk31 : aBack s 42 9 ≤ 192 := by unfold NIk at hkk1; omega
    have hQf : QO (aForget (aBack s)) := by
      have q := QO.of M1.2.2.2.1.2.1 M1.2.2.2.1.2.2.1 M1.1
      unfold QO
      rw [fo.2.2 50 (by decide) (by decide) (by decide), fo.2.2 53 (by decide) (by decide) (by decide), fo.2.2 17 (by decide) (by decide) (by decide)]
      exact q
    have hf47 : ∀ c, c < aForget (aBack s) 42 5 → aForget (aBack s) 47 c ≤ 3 := by
      intro c hc
      rw [f42] at hc
      rw [show aForget (aBack s) 47 = aFG1 (aBack s 42 5 - aBack s 42 6) (aBack s 42 6) (aBack s) 47 from aFG2_k _ _ _ (by decide)]
      have h1 := M1.2.2.2.2.2.1.1
      exact ((aFG1_ok (aBack s 42 5 - aBack s 42 6) (aBack s 42 6) (aBack s) (FGI.beg M1) (TF.beg M1) (by omega)).1.2.2.2.2.1 c hc).2
    refine R_seg sg_102_215 sk_102_215 (pc' := 217) (lv' := [(7, .int 1), (6, .int (nI la)), (0, .ref 57), (1, .int (nI as)), (2, .int (nI ty)), (3, .int (nI ke)), (4, .int (nI tk))]) (st' := [.int 1]) (S' := stt (nw v) τ) (kc' := 0) (ks' := 0) rfl ⟨trivial, trivial⟩ ?_
    refine R_if ck_102_217 (fun c => absurd c (show ¬ (1 : Int32) = 0 from by decide)) (fun _ => ?_)
    refine R_seg sg_102_220 sk_102_220 (pc' := 221) (lv' := [(7, .int 1), (6, .int (nI la)), (0, .ref 57), (1, .int (nI as)), (2, .int (nI ty)), (3, .int (nI ke)), (4, .int (nI tk))]) (st' := [.ref 57]) (S' := stt (nw v) τ) (kc' := 0) (ks' := 0) rfl ⟨trivial, trivial⟩ ?_
    refine R_virt ck_102_221 57 [] 0 0 (r := []) rfl rfl rfl (Nat.le_of_ble_eq_true rfl) (Nat.le_refl _) (Nat.le_refl _) ?_
    refine m_108 (d := d + 7) M hI h24 hR (fun v1 hR1 hV1 => ?_)
    have e57 := hR1.2.1.1
    rw [e14] at e57
    show RU_102 (d + 20) (0, 0) Post 224 ([(7, .int 1), (6, .int (nI la)), (0, .ref 57), (1, .int (nI as)), (2, .int (nI ty)), (3, .int (nI ke)), (4, .int (nI tk))]) ([]) (stt (nw v1) τ) 0 0
    refine R_seg sg_102_224 sk_102_224 (pc' := 230) (lv' := [(7, .int 1), (6, .int (nI la)), (0, .ref 57), (1, .int (nI as)), (2, .int (nI ty)), (3, .int (nI ke)), (4, .int (nI tk))]) (st' := [.int (nI la), .int (nI (v1 57 1))]) (S' := stt (nw v1) τ) (kc' := 0) (ks' := 0) rfl ⟨trivial, rfl, trivial, trivial⟩ ?_
    rw [e57]
    refine R_icmp ck_102_230 (fun (c_230 : (nI la) ≤ (nI (s 1 4))) => ?_) (fun (c_230 : ¬ (nI la) ≤ (nI (s 1 4))) => ?_)
    · have c_230 : la ≤ (s 1 4) := (nI_leI (a := la) (b := (s 1 4)) (by omega) (by omega)).mp c_230
      refine R_seg sg_102_257 sk_102_257 (pc' := 258) (lv' := [(7, .int 1), (6, .int (nI la)), (0, .ref 57), (1, .int (nI as)), (2, .int (nI ty)), (3, .int (nI ke)), (4, .int (nI tk))]) (st' := [.ref 57]) (S' := stt (nw v1) τ) (kc' := 0) (ks' := 0) rfl ⟨trivial, trivial⟩ ?_
      refine R_virt ck_102_258 57 [] 0 0 (r := []) rfl rfl rfl (Nat.le_of_ble_eq_true rfl) (Nat.le_refl _) (Nat.le_refl _) ?_
      refine m_115 (d := d + 18) M1 hR1 (fun v2 hR2 hV2 => ?_)
      show RU_102 (d + 20) (0, 0) Post 261 ([(7, .int 1), (6, .int (nI la)), (0, .ref 57), (1, .int (nI as)), (2, .int (nI ty)), (3, .int (nI ke)), (4, .int (nI tk))]) ([]) (stt (nw v2) τ) 0 0
      refine R_seg sg_102_261 sk_102_261 (pc' := 262) (lv' := [(7, .int 1), (6, .int (nI la)), (0, .ref 57), (1, .int (nI as)), (2, .int (nI ty)), (3, .int (nI ke)), (4, .int (nI tk))]) (st' := [.ref 57]) (S' := stt (nw v2) τ) (kc' := 0) (ks' := 0) rfl ⟨trivial, trivial⟩ ?_
      refine R_virt ck_102_262 57 [] 0 0 (r := []) rfl rfl rfl (Nat.le_of_ble_eq_true rfl) (Nat.le_refl _) (Nat.le_refl _) ?_
      refine m_116 (d := d + 19) hQf (by rw [f42]; omega) hf47 hR2 (fun hov => ?_) (fun hov => absurd (ovr_forget M1 I1 A1) hov)
      show RU_102 (d + 20) (0, 0) Post 265 ([(7, .int 1), (6, .int (nI la)), (0, .ref 57), (1, .int (nI as)), (2, .int (nI ty)), (3, .int (nI ke)), (4, .int (nI tk))]) ([.int 1]) (stt (nw v2) τ) 0 0
      refine R_if ck_102_265 (fun _ => ?_) (fun c => absurd (show ¬ (1 : Int32) = 0 from by decide) c)
      refine R_seg sg_102_272 sk_102_272 (pc' := 273) (lv' := [(7, .int 1), (6, .int (nI la)), (0, .ref 57), (1, .int (nI as)), (2, .int (nI ty)), (3, .int (nI ke)), (4, .int (nI tk))]) (st' := [.int 0]) (S' := stt (nw v2) τ) (kc' := 0) (ks' := 0) rfl ⟨trivial, trivial⟩ ?_
      refine R_seg sg_102_273 sk_102_273 (pc' := 277) (lv' := [(7, .int 0), (6, .int (nI la)), (0, .ref 57), (1, .int (nI as)), (2, .int (nI ty)), (3, .int (nI ke)), (4, .int (nI tk))]) (st' := [.int 0]) (S' := stt (nw v2) τ) (kc' := 0) (ks' := 0) rfl ⟨(by decide), trivial, trivial⟩ ?_
      refine R_if ck_102_277 (fun _ => ?_) (fun c => absurd (show (0 : Int32) = 0 from by decide) c)
      refine Runs.lv (lv := [(7, .int 0), (6, .int (nI la)), (0, .ref 57), (1, .int (nI as)), (2, .int (nI ty)), (3, .int (nI ke)), (4, .int (nI tk))]) ?_ _ (lvS_l (show ([7, 6, 0, 1, 2, 3, 4] : List Nat).Nodup from by decide) (by intro q hq; simp only [List.mem_cons, List.not_mem_nil, or_false] at hq; rcases hq with rfl | rfl | rfl | rfl | rfl | rfl | rfl <;> rfl))
      exact ml_102z (hp v2 (by rw [show m = 0 by omega]; exact hR2) ((hV.tr hV1).tr hV2))
    · have c_230 : (s 1 4) < la := Nat.not_le.mp (fun zq => c_230 ((nI_leI (a := la) (b := (s 1 4)) (by omega) (by omega)).mpr zq))
      refine R_seg sg_102_233 sk_102_233 (pc' := 236) (lv' := [(8, .int 0), (7, .int 1), (6, .int (nI la)), (0, .ref 57), (1, .int (nI as)), (2, .int (nI ty)), (3, .int (nI ke)), (4, .int (nI tk))]) (st' := []) (S' := stt (nw v1) τ) (kc' := 0) (ks' := 0) rfl ⟨trivial, (by decide), trivial⟩ ?_
      refine Runs.lv (lv := [(8, .int 0), (7, .int 1), (6, .int (nI la)), (0, .ref 57), (1, .int (nI as)), (2, .int (nI ty)), (3, .int (nI ke)), (4, .int (nI tk))]) ?_ _ (lvS_l (show ([8, 7, 6, 0, 1, 2, 3, 4] : List Nat).Nodup from by decide) (by intro q hq; simp only [List.mem_cons, List.not_mem_nil, or_false] at hq; rcases hq with rfl | rfl | rfl | rfl | rfl | rfl | rfl | rfl <;> rfl))
      rw [← nI_0]
      refine ml_102h (d := d) (v0 := v1) M1 (fun v2 hR2 hV2 => ?_) 6 0 _ v1 (by omega) rfl hR1 (FV.rf v1) (by omega)
      have hR2 := hR2.calls
      obtain ⟨m, rfl⟩ : ∃ m', m = m' + 1 := ⟨m - 1, by omega⟩
      have M2 := aCalls_mi M1
      have I2 := aCalls_ci M1 I1
      have ek : ∀ k, k < 42 → k < 11 ∨ 16 ≤ k → aCalls (aBack s) k = aBack s k := fun k k1 k2 => aCalls_k M1 k1 k2
      have A2 : AO (aCalls (aBack s)) := by unfold AO; rw [ek 2 (by decide) (by decide), ek 3 (by decide) (by decide), ek 4 (by decide) (by decide), ek 5 (by decide) (by decide)]; exact A1
      have hQ2 := QO.of M2.2.2.2.1.2.1 M2.2.2.2.1.2.2.1 M2.1
      have hl := M2.2.2.2.1.2.2.2.2.2.2.2.2.1
      have hkk := M2.2.2.2.1.2.2.2.2.2.2.2.1
      have hk3 : aCalls (aBack s) 42 9 ≤ 192 := by unfold NIk at hkk; omega
      have h192 : aCalls (aBack s) 42 5 ≤ 192 := by omega
      have h47 : ∀ c, c < aCalls (aBack s) 42 5 → aCalls (aBack s) 47 c ≤ 3 := fun c hc => (M2.2.2.2.2.2.1.2.1 c hc).2.2
      have e1c : aCalls (aBack s) 1 4 = s 1 4 := by rw [ek 1 (by decide) (by decide)]; exact e14
      refine R_goto ck_102_254 ?_
      refine R_seg sg_102_261 sk_102_261 (pc' := 262) (lv' := [(7, .int 1), (6, .int (nI la)), (0, .ref 57), (1, .int (nI as)), (2, .int (nI ty)), (3, .int (nI ke)), (4, .int (nI tk))]) (st' := [.ref 57]) (S' := stt (nw v2) τ) (kc' := 0) (ks' := 0) rfl ⟨trivial, trivial⟩ ?_
      refine R_virt ck_102_262 57 [] 0 0 (r := []) rfl rfl rfl (Nat.le_of_ble_eq_true rfl) (Nat.le_refl _) (Nat.le_refl _) ?_
      refine m_116 (d := d + 19) hQ2 h192 h47 hR2 (fun hov => ?_) (fun hov => ?_)
      · have hd := (ovr_done M1).mp hov
        show RU_102 (d + 20) (0, 0) Post 265 ([(7, .int 1), (6, .int (nI la)), (0, .ref 57), (1, .int (nI as)), (2, .int (nI ty)), (3, .int (nI ke)), (4, .int (nI tk))]) ([.int 1]) (stt (nw v2) τ) 0 0
        refine R_if ck_102_265 (fun _ => ?_) (fun c => absurd (show ¬ (1 : Int32) = 0 from by decide) c)
        refine R_seg sg_102_272 sk_102_272 (pc' := 273) (lv' := [(7, .int 1), (6, .int (nI la)), (0, .ref 57), (1, .int (nI as)), (2, .int (nI ty)), (3, .int (nI ke)), (4, .int (nI tk))]) (st' := [.int 0]) (S' := stt (nw v2) τ) (kc' := 0) (ks' := 0) rfl ⟨trivial, trivial⟩ ?_
        refine R_seg sg_102_273 sk_102_273 (pc' := 277) (lv' := [(7, .int 0), (6, .int (nI la)), (0, .ref 57), (1, .int (nI as)), (2, .int (nI ty)), (3, .int (nI ke)), (4, .int (nI tk))]) (st' := [.int 0]) (S' := stt (nw v2) τ) (kc' := 0) (ks' := 0) rfl ⟨(by decide), trivial, trivial⟩ ?_
        refine R_if ck_102_277 (fun _ => ?_) (fun c => absurd (show (0 : Int32) = 0 from by decide) c)
        refine Runs.lv (lv := [(7, .int 0), (6, .int (nI la)), (0, .ref 57), (1, .int (nI as)), (2, .int (nI ty)), (3, .int (nI ke)), (4, .int (nI tk))]) ?_ _ (lvS_l (show ([7, 6, 0, 1, 2, 3, 4] : List Nat).Nodup from by decide) (by intro q hq; simp only [List.mem_cons, List.not_mem_nil, or_false] at hq; rcases hq with rfl | rfl | rfl | rfl | rfl | rfl | rfl <;> rfl))
        exact ml_102z (hp v2 (by rw [rlp_s, if_pos hd]; exact hR2) ((hV.tr hV1).tr hV2))
      · have hd : ¬ done (aCalls (aBack s)) := fun z => hov ((ovr_done M1).mpr z)
        show RU_102 (d + 20) (0, 0) Post 265 ([(7, .int 1), (6, .int (nI la)), (0, .ref 57), (1, .int (nI as)), (2, .int (nI ty)), (3, .int (nI ke)), (4, .int (nI tk))]) ([.int 0]) (stt (nw v2) τ) 0 0
        refine R_if ck_102_265 (fun c => absurd c (show ¬ ¬ (0 : Int32) = 0 from by decide)) (fun _ => ?_)
        refine R_seg sg_102_268 sk_102_268 (pc' := 269) (lv' := [(7, .int 1), (6, .int (nI la)), (0, .ref 57), (1, .int (nI as)), (2, .int (nI ty)), (3, .int (nI ke)), (4, .int (nI tk))]) (st' := [.int 1]) (S' := stt (nw v2) τ) (kc' := 0) (ks' := 0) rfl ⟨trivial, trivial⟩ ?_
        refine R_goto ck_102_269 ?_
        refine R_seg sg_102_273 sk_102_273 (pc' := 277) (lv' := [(7, .int 1), (6, .int (nI la)), (0, .ref 57), (1, .int (nI as)), (2, .int (nI ty)), (3, .int (nI ke)), (4, .int (nI tk))]) (st' := [.int 1]) (S' := stt (nw v2) τ) (kc' := 0) (ks' := 0) rfl ⟨(by decide), trivial, trivial⟩ ?_
        refine R_if ck_102_277 (fun c => absurd c (show ¬ (1 : Int32) = 0 from by decide)) (fun _ => ?_)
        refine R_seg sg_102_280 sk_102_280 (pc' := 282) (lv' := [(7, .int 1), (6, .int (nI la)), (0, .ref 57), (1, .int (nI as)), (2, .int (nI ty)), (3, .int (nI ke)), (4, .int (nI tk))]) (st' := [.int 1, .ref 57]) (S' := stt (nw v2) τ) (kc' := 0) (ks' := 0) rfl ⟨trivial, trivial, trivial⟩ ?_
        refine R_virt ck_102_282 57 [.int 1] 0 0 (r := []) rfl rfl rfl (Nat.le_of_ble_eq_true rfl) (Nat.le_refl _) (Nat.le_refl _) ?_
        refine x_92 (d := d + 19) ?_
        rw [show (1 : Int32) = nI 1 from rfl, nw_mgo (AV.of A2 hR2) (by decide)]
        show RU_102 (d + 20) (0, 0) Post 285 ([(7, .int 1), (6, .int (nI la)), (0, .ref 57), (1, .int (nI as)), (2, .int (nI ty)), (3, .int (nI ke)), (4, .int (nI tk))]) ([]) (stt (nw (mGo 1 v2)) τ) 0 0
        refine R_goto ck_102_285 ?_
        refine Runs.lv (lv := [(7, .int 1), (6, .int (nI la)), (0, .ref 57), (1, .int (nI as)), (2, .int (nI ty)), (3, .int (nI ke)), (4, .int (nI tk))]) ?_ _ (lvS_l (show ([7, 6, 0, 1, 2, 3, 4] : List Nat).Nodup from by decide) (by intro q hq; simp only [List.mem_cons, List.not_mem_nil, or_false] at hq; rcases hq with rfl | rfl | rfl | rfl | rfl | rfl | rfl <;> rfl))
        exact ih m (aGo 1 (aCalls (aBack s))) (mGo 1 v2) (aGo_mi M2 (by omega)) (aGo_ci I2) (by rw [aGo_k _ _ (by decide), ek 24 (by decide) (by decide)]; exact h24b) (A2.go 1) (hR2.tick 1) (((hV.tr hV1).tr hV2).tr (mGo_fv 1 v2)) (show aCalls (aBack s) 1 4 + 1 + m = la by omega) hla (by rw [rlp_s, if_neg hd] at hp; exact hp) (by omega)
/-! ===== the model's ask: its beginning ===== -/
theorem flw_0 (w : WW) (k a v : Nat) : flw w k a a v = w := by
  funext k' i
  unfold flw
  by_cases h : k' = k
  · rw [if_pos h, if_neg (by omega), h]
  · rw [if_neg h]
theorem flw_s (w : WW) (k a b v : Nat) (h : a ≤ b) : up2 (flw w k a b v) k b v = flw w k a (b + 1) v := by
  funext k' i
  unfold up2 va_up flw
  by_cases hk : k' = k
  · simp only [hk, if_true]
    by_cases hi : i = b
    · simp only [hi, if_true]
      rw [if_pos (by omega)]
    · simp only [hi, if_false]
      by_cases h2 : a ≤ i ∧ i < b
      · rw [if_pos h2, if_pos (by omega)]
      · rw [if_neg h2, if_neg (by omega)]
  · simp only [hk, if_false]
theorem flw_2 (w : WW) (i : Nat) : up2 (up2 (flw (flw w 94 0 i 0) 95 0 i 0) 94 i 0) 95 i 0 = flw (flw w 94 0 (i + 1) 0) 95 0 (i + 1) 0 := by
  rw [← flw_s w 94 0 i 0 (Nat.zero_le _), ← flw_s _ 95 0 i 0 (Nat.zero_le _)]
  congr 1
  funext k' j
  unfold up2 va_up flw
  by_cases h1 : k' = 94
  · subst h1; simp
  · by_cases h2 : k' = 95
    · subst h2; simp
    · simp [h1, h2]
theorem flw_k (w : WW) (k a b v : Nat) {j : Nat} (h : j ≠ k) : flw w k a b v j = w j := by
  unfold flw
  rw [if_neg h]
theorem flw_i (w : WW) (k b v : Nat) {i : Nat} (h : i < b) : flw w k 0 b v k i = v := by
  unfold flw
  rw [if_pos rfl, if_pos ⟨Nat.zero_le _, h⟩]
/-- between asks -/
def RE (a v : WW) : Prop := (∀ p, p ∈ EQA → v p.1 = a p.2) ∧ v 57 10 = a 6 1 ∧ (∀ h, h < 5 → v 58 h = a (11 + h) 0 ∧ v 59 h = a (11 + h) 1 ∧ v 60 h = a (11 + h) 2 ∧ v 61 h = a (11 + h) 3 ∧ v 62 h = a (11 + h) 4)
def RW (a v : WW) : Prop := RE a v ∧ RT a v ∧ RH a v ∧ RK (a 25) (v 81) (a 1 4) ∧ RC a v ∧ RQ a v ∧ RF (a 51) (v 94) (v 95)
theorem Rl.rw {a v : WW} (h : Rl a v) : RW a v := by
  obtain ⟨h1, h2, h3, h4, h5, h6, h7, h8⟩ := h
  exact ⟨⟨h1.1, h1.2.1, h1.2.2.1⟩, h2, h3, h4, h5, h6, h7⟩
def vSt (as : Nat) (v : WW) : WW := up2 (up2 (up2 (up2 v 57 49 as) 57 50 0) 57 51 0) 57 47 0
def vCl (as : Nat) (v : WW) : WW := flw (flw (flw (vSt as v) 94 0 192 0) 95 0 192 0) 96 0 3840 0
theorem vCl_k (as : Nat) (v : WW) {k : Nat} (hk : k ≠ 57 ∧ k ≠ 94 ∧ k ≠ 95 ∧ k ≠ 96) : vCl as v k = v k := by
  unfold vCl vSt
  rw [flw_k _ _ _ _ _ hk.2.2.2, flw_k _ _ _ _ _ hk.2.2.1, flw_k _ _ _ _ _ hk.2.1, up2_k _ _ _ _ hk.1, up2_k _ _ _ _ hk.1, up2_k _ _ _ _ hk.1, up2_k _ _ _ _ hk.1]
theorem vCl_57 (as : Nat) (v : WW) {i : Nat} (hi : i ≠ 47 ∧ i ≠ 49 ∧ i ≠ 50 ∧ i ≠ 51) : vCl as v 57 i = v 57 i := by
  unfold vCl vSt
  rw [flw_k _ _ _ _ _ (by decide), flw_k _ _ _ _ _ (by decide), flw_k _ _ _ _ _ (by decide), up2_d _ _ _ _ hi.1, up2_d _ _ _ _ hi.2.2.2, up2_d _ _ _ _ hi.2.2.1, up2_d _ _ _ _ hi.2.1]
theorem Rl_start {a v : WW} {as : Nat} (h : RW a v) (hT : RTr a v) (has : as < 4) : Rl (aSet (a 2 as) a) (vCl as v) := by
  obtain ⟨⟨h1, h1b, h1c⟩, h2, h3, h4, ⟨⟨r1, r2, r3, r4, r5⟩, r6, r7⟩, h6, h7⟩ := h
  have ea : ∀ k, k ≠ 42 ∧ k ≠ 50 ∧ k ≠ 51 ∧ k ≠ 52 ∧ k ≠ 54 → aSet (a 2 as) a k = a k := fun k hk => aSet_k _ _ hk
  have ev : ∀ k, k ≠ 57 ∧ k ≠ 94 ∧ k ≠ 95 ∧ k ≠ 96 → vCl as v k = v k := fun k hk => vCl_k _ _ hk
  have e57 : ∀ i, i ≠ 47 ∧ i ≠ 49 ∧ i ≠ 50 ∧ i ≠ 51 → vCl as v 57 i = v 57 i := fun i hi => vCl_57 _ _ hi
  have e49 : vCl as v 57 49 = as := by
    unfold vCl vSt
    rw [flw_k _ _ _ _ _ (by decide), flw_k _ _ _ _ _ (by decide), flw_k _ _ _ _ _ (by decide)]
    rfl
  have z : ∀ i, i = 47 ∨ i = 50 ∨ i = 51 → vCl as v 57 i = 0 := by
    intro i hi
    unfold vCl vSt
    rw [flw_k _ _ _ _ _ (by decide), flw_k _ _ _ _ _ (by decide), flw_k _ _ _ _ _ (by decide)]
    rcases hi with rfl | rfl | rfl <;> rfl
  refine ⟨⟨fun p hp => ?_, ?_, fun h hh => ?_, ⟨?_, fun n hn => ?_⟩, ?_, ?_⟩, ?_, h3.fr (fun k hk => ea k (by omega)) (fun k hk => ev k (by omega)), ?_, ⟨⟨?_, ?_, ?_, ?_, ?_⟩, ?_, ?_⟩, ⟨?_, ?_, ?_⟩, ?_, ?_⟩
  · have hb : ∀ p, p ∈ EQA → (p.1 ≠ 57 ∧ p.1 ≠ 94 ∧ p.1 ≠ 95 ∧ p.1 ≠ 96) ∧ p.2 ≠ 42 ∧ p.2 ≠ 50 ∧ p.2 ≠ 51 ∧ p.2 ≠ 52 ∧ p.2 ≠ 54 := by decide
    rw [ev p.1 (hb p hp).1, ea p.2 (hb p hp).2]
    exact h1 p hp
  · rw [e57 10 (by decide), ea 6 (by decide)]; exact h1b
  · rw [ev 58 (by decide), ev 59 (by decide), ev 60 (by decide), ev 61 (by decide), ev 62 (by decide), ea (11 + h) (by omega)]
    exact h1c h hh
  · rw [e57 35 (by decide), ea 32 (by decide)]; exact hT.1
  · rw [ea 32 (by decide)] at hn
    rw [ev 87 (by decide), ev 89 (by decide), ev 90 (by decide), ev 91 (by decide), ea 33 (by decide), ea 37 (by decide), ea 38 (by decide), ea 39 (by decide)]
    exact hT.2 n hn
  · rw [e49, ev 82 (by decide), h1 (82, 2) (by decide)]
    exact (up2_c _ _ _ _).symm
  · rw [e49]; exact has
  · unfold RT; rw [e57 1 (by decide), ev 85 (by decide), ea 1 (by decide), ea 5 (by decide)]; exact h2
  · rw [ea 25 (by decide), ea 1 (by decide), ev 81 (by decide)]; exact h4
  · rw [ev 98 (by decide), ea 43 (by decide)]; exact r1
  · rw [ev 99 (by decide), ea 44 (by decide)]; exact r2
  · rw [ev 100 (by decide), ea 45 (by decide)]; exact r3
  · rw [ev 101 (by decide), ea 46 (by decide)]; exact r4
  · rw [ev 102 (by decide), ea 47 (by decide)]; exact r5
  · rw [z 51 (by decide)]; rfl
  · intro c hc
    exact absurd (show c < 0 from hc) (Nat.not_lt_zero c)
  · rw [ev 97 (by decide), ea 53 (by decide)]; exact h6.1
  · rw [z 47 (by decide)]; rfl
  · rw [z 50 (by decide)]; rfl
  · intro x hx
    have e1 : aSet (a 2 as) a 51 x = 0 := if_pos ⟨Nat.zero_le _, hx⟩
    have e2 : vCl as v 94 x = 0 := by
      unfold vCl
      rw [flw_k _ _ _ _ _ (by decide), flw_k _ _ _ _ _ (by decide), flw_i _ _ _ _ hx]
    rw [e1, e2]
    exact ⟨rfl, fun q => absurd q (by decide)⟩
  · intro x hx m hm
    have e1 : aSet (a 2 as) a 52 x = 0 := if_pos ⟨Nat.zero_le _, hx⟩
    have e2 : vCl as v 96 (20 * x + m) = 0 := by
      unfold vCl
      rw [flw_i _ _ _ _ (by omega)]
    rw [e1, e2]
    simp
set_option maxRecDepth 20000 in
theorem ml_102c {d as ty ke tk : Nat} {w : WW} {τ : Nat → Nat → Int64} {Post : Option Value → Sto → Prop} (hk : RU_102 (d + 20) (0, 0) Post 167 [(0, .ref 57), (1, .int (nI as)), (2, .int (nI ty)), (3, .int (nI ke)), (4, .int (nI tk))] [] (stt (nw (flw (flw w 94 0 192 0) 95 0 192 0)) τ) 0 0) : ∀ (nn : Nat) (i : Nat), i ≤ 192 → 192 - i < nn → RU_102 (d + 20) (0, 0) Post 137 [(6, .int (nI i)), (0, .ref 57), (1, .int (nI as)), (2, .int (nI ty)), (3, .int (nI ke)), (4, .int (nI tk))] [] (stt (nw (flw (flw w 94 0 i 0) 95 0 i 0)) τ) 0 0 := by
  intro nn
  induction nn with
  | zero => intro i hi hms; exact absurd hms (by omega)
  | succ nn ih =>
    intro i hi hms
    refine R_seg sg_102_137 sk_102_137 (pc' := 142) (lv' := [(6, .int (nI i)), (0, .ref 57), (1, .int (nI as)), (2, .int (nI ty)), (3, .int (nI ke)), (4, .int (nI tk))]) (st' := [.int 192, .int (nI i)]) (S' := stt (nw (flw (flw w 94 0 i 0) 95 0 i 0)) τ) (kc' := 0) (ks' := 0) rfl ⟨trivial, trivial, trivial⟩ ?_
    refine R_icmp ck_102_142 (fun (c_142 : 192 ≤ (nI i)) => ?_) (fun (c_142 : ¬ 192 ≤ (nI i)) => ?_)
    · have c_142 : 192 ≤ i := (nI_leI (a := 192) (b := i) (by omega) (by omega)).mp c_142
      refine Runs.lv (lv := [(0, .ref 57), (1, .int (nI as)), (2, .int (nI ty)), (3, .int (nI ke)), (4, .int (nI tk))]) ?_ _ (lvS_l (show ([0, 1, 2, 3, 4] : List Nat).Nodup from by decide) (by intro q hq; simp only [List.mem_cons, List.not_mem_nil, or_false] at hq; rcases hq with rfl | rfl | rfl | rfl | rfl <;> rfl))
      have ei : i = 192 := by omega
      subst ei
      exact hk
    · have c_142 : i < 192 := Nat.not_le.mp (fun zq => c_142 ((nI_leI (a := 192) (b := i) (by omega) (by omega)).mpr zq))
      skip
      refine R_seg sg_102_145 sk_102_145 (pc' := 152) (lv' := [(6, .int (nI i)), (0, .ref 57), (1, .int (nI as)), (2, .int (nI ty)), (3, .int (nI ke)), (4, .int (nI tk))]) (st' := [.int 0, .int (nI i), .ref 94]) (S' := stt (nw (flw (flw w 94 0 i 0) 95 0 i 0)) τ) (kc' := 0) (ks' := 0) rfl ⟨trivial, rfl, trivial, trivial, trivial⟩ ?_
      refine R_iast ca_102_152 (j := i) rfl rfl (by omega) ?_
      show RU_102 (d + 20) (0, 0) Post 153 ([(6, .int (nI i)), (0, .ref 57), (1, .int (nI as)), (2, .int (nI ty)), (3, .int (nI ke)), (4, .int (nI tk))]) ([]) (stt (up2 (nw (flw (flw w 94 0 i 0) 95 0 i 0)) 94 i 0) τ) 0 0
      rw [nw_up (w := flw (flw w 94 0 i 0) 95 0 i 0) (k := 94) (i := i) (v := 0) (n := 0) rfl]
      refine R_seg sg_102_153 sk_102_153 (pc' := 160) (lv' := [(6, .int (nI i)), (0, .ref 57), (1, .int (nI as)), (2, .int (nI ty)), (3, .int (nI ke)), (4, .int (nI tk))]) (st' := [.int 0, .int (nI i), .ref 95]) (S' := stt (nw (up2 (flw (flw w 94 0 i 0) 95 0 i 0) 94 i 0)) τ) (kc' := 0) (ks' := 0) rfl ⟨trivial, rfl, trivial, trivial, trivial⟩ ?_
      refine R_iast ca_102_160 (j := i) rfl rfl (by omega) ?_
      show RU_102 (d + 20) (0, 0) Post 161 ([(6, .int (nI i)), (0, .ref 57), (1, .int (nI as)), (2, .int (nI ty)), (3, .int (nI ke)), (4, .int (nI tk))]) ([]) (stt (up2 (nw (up2 (flw (flw w 94 0 i 0) 95 0 i 0) 94 i 0)) 95 i 0) τ) 0 0
      rw [nw_up (w := up2 (flw (flw w 94 0 i 0) 95 0 i 0) 94 i 0) (k := 95) (i := i) (v := 0) (n := 0) rfl]
      refine R_seg sg_102_161 sk_102_161 (pc' := 164) (lv' := [(6, .int ((nI i) + 1)), (0, .ref 57), (1, .int (nI as)), (2, .int (nI ty)), (3, .int (nI ke)), (4, .int (nI tk))]) (st' := []) (S' := stt (nw (up2 (up2 (flw (flw w 94 0 i 0) 95 0 i 0) 94 i 0) 95 i 0)) τ) (kc' := 0) (ks' := 0) rfl ⟨(by decide), trivial⟩ ?_
      refine R_goto ck_102_164 ?_
      refine Runs.lv (lv := [(6, .int ((nI i) + 1)), (0, .ref 57), (1, .int (nI as)), (2, .int (nI ty)), (3, .int (nI ke)), (4, .int (nI tk))]) ?_ _ (lvS_l (show ([6, 0, 1, 2, 3, 4] : List Nat).Nodup from by decide) (by intro q hq; simp only [List.mem_cons, List.not_mem_nil, or_false] at hq; rcases hq with rfl | rfl | rfl | rfl | rfl | rfl <;> rfl))
      rw [nI_1 i, flw_2 w i]
      exact ih (i + 1) (by omega) (by omega)
set_option maxRecDepth 20000 in
theorem ml_102d {d as ty ke tk : Nat} {w : WW} {τ : Nat → Nat → Int64} {Post : Option Value → Sto → Prop} (hk : RU_102 (d + 20) (0, 0) Post 192 [(0, .ref 57), (1, .int (nI as)), (2, .int (nI ty)), (3, .int (nI ke)), (4, .int (nI tk))] [] (stt (nw (flw w 96 0 3840 0)) τ) 0 0) : ∀ (nn : Nat) (i : Nat), i ≤ 3840 → 3840 - i < nn → RU_102 (d + 20) (0, 0) Post 170 [(6, .int (nI i)), (0, .ref 57), (1, .int (nI as)), (2, .int (nI ty)), (3, .int (nI ke)), (4, .int (nI tk))] [] (stt (nw (flw w 96 0 i 0)) τ) 0 0 := by
  intro nn
  induction nn with
  | zero => intro i hi hms; exact absurd hms (by omega)
  | succ nn ih =>
    intro i hi hms
    refine R_seg sg_102_170 sk_102_170 (pc' := 175) (lv' := [(6, .int (nI i)), (0, .ref 57), (1, .int (nI as)), (2, .int (nI ty)), (3, .int (nI ke)), (4, .int (nI tk))]) (st' := [.int 3840, .int (nI i)]) (S' := stt (nw (flw w 96 0 i 0)) τ) (kc' := 0) (ks' := 0) rfl ⟨trivial, trivial, trivial⟩ ?_
    refine R_icmp ck_102_175 (fun (c_175 : 3840 ≤ (nI i)) => ?_) (fun (c_175 : ¬ 3840 ≤ (nI i)) => ?_)
    · have c_175 : 3840 ≤ i := (nI_leI (a := 3840) (b := i) (by omega) (by omega)).mp c_175
      refine Runs.lv (lv := [(0, .ref 57), (1, .int (nI as)), (2, .int (nI ty)), (3, .int (nI ke)), (4, .int (nI tk))]) ?_ _ (lvS_l (show ([0, 1, 2, 3, 4] : List Nat).Nodup from by decide) (by intro q hq; simp only [List.mem_cons, List.not_mem_nil, or_false] at hq; rcases hq with rfl | rfl | rfl | rfl | rfl <;> rfl))
      have ei : i = 3840 := by omega
      subst ei
      exact hk
    · have c_175 : i < 3840 := Nat.not_le.mp (fun zq => c_175 ((nI_leI (a := 3840) (b := i) (by omega) (by omega)).mpr zq))
      refine R_seg sg_102_178 sk_102_178 (pc' := 185) (lv' := [(6, .int (nI i)), (0, .ref 57), (1, .int (nI as)), (2, .int (nI ty)), (3, .int (nI ke)), (4, .int (nI tk))]) (st' := [.int 0, .int (nI i), .ref 96]) (S' := stt (nw (flw w 96 0 i 0)) τ) (kc' := 0) (ks' := 0) rfl ⟨trivial, rfl, trivial, trivial, trivial⟩ ?_
      refine R_zast ca_102_185 (j := i) rfl rfl (by omega) rfl ?_
      show RU_102 (d + 20) (0, 0) Post 186 ([(6, .int (nI i)), (0, .ref 57), (1, .int (nI as)), (2, .int (nI ty)), (3, .int (nI ke)), (4, .int (nI tk))]) ([]) (stt (up2 (nw (flw w 96 0 i 0)) 96 i 0) τ) 0 0
      rw [nw_up (w := flw w 96 0 i 0) (k := 96) (i := i) (v := 0) (n := 0) rfl]
      refine R_seg sg_102_186 sk_102_186 (pc' := 189) (lv' := [(6, .int ((nI i) + 1)), (0, .ref 57), (1, .int (nI as)), (2, .int (nI ty)), (3, .int (nI ke)), (4, .int (nI tk))]) (st' := []) (S' := stt (nw (up2 (flw w 96 0 i 0) 96 i 0)) τ) (kc' := 0) (ks' := 0) rfl ⟨(by decide), trivial⟩ ?_
      refine R_goto ck_102_189 ?_
      refine Runs.lv (lv := [(6, .int ((nI i) + 1)), (0, .ref 57), (1, .int (nI as)), (2, .int (nI ty)), (3, .int (nI ke)), (4, .int (nI tk))]) ?_ _ (lvS_l (show ([6, 0, 1, 2, 3, 4] : List Nat).Nodup from by decide) (by intro q hq; simp only [List.mem_cons, List.not_mem_nil, or_false] at hq; rcases hq with rfl | rfl | rfl | rfl | rfl | rfl <;> rfl))
      rw [nI_1 i, flw_s w 96 0 i 0 (Nat.zero_le _)]
      exact ih (i + 1) (by omega) (by omega)
set_option maxRecDepth 20000 in
theorem m_102r {d as ty ke tk : Nat} {a v : WW} {τ : Nat → Nat → Int64} {Post : Option Value → Sto → Prop} (has : as < 4) (hty : ty < 6) (hke : ke < 32) (htk : tk ≤ 200) (B : BI a) (hTO : TO a) (h0 : 0 < a 32 7 ∧ (ty * 32 + ke) / 32 = a 33 0 ∧ a 36 0 = 1) (hnow : a 1 4 + tk ≤ 100000) (hW : RW a v) (hT : RTr a v) (hk : ∀ v', Rl (aRun (ty * 32 + ke) tk (a 2 as) a) v' → FV (vCl as v) v' → RU_102 (d + 20) (0, 0) Post 288 [(0, .ref 57), (1, .int (nI as)), (2, .int (nI ty)), (3, .int (nI ke)), (4, .int (nI tk))] [] (stt (nw v') τ) 0 0) : RU_102 (d + 20) (0, 0) Post 114 [(0, .ref 57), (1, .int (nI as)), (2, .int (nI ty)), (3, .int (nI ke)), (4, .int (nI tk))] [] (stt (nw v) τ) 0 0 := by
  have B0 := aSet_mi B hTO (a 2 as)
  have M0 := B0
  have ho : OKn (aSet (a 2 as) a) 5 0 (ty * 32 + ke) := by
    unfold OKn
    rw [aSet_k _ _ (show 32 ≠ 42 ∧ 32 ≠ 50 ∧ 32 ≠ 51 ∧ 32 ≠ 52 ∧ 32 ≠ 54 by decide), aSet_k _ _ (show 33 ≠ 42 ∧ 33 ≠ 50 ∧ 33 ≠ 51 ∧ 33 ≠ 52 ∧ 33 ≠ 54 by decide), aSet_k _ _ (show 36 ≠ 42 ∧ 36 ≠ 50 ∧ 36 ≠ 51 ∧ 36 ≠ 52 ∧ 36 ≠ 54 by decide)]
    exact ⟨h0.1, by omega, h0.2.1, by rw [h0.2.2]⟩
  have M1 := need_mi M0 ho
  have C1 := start_ci B hTO ho
  have hR0 := Rl_start hW hT has
  have h24 : ∀ x, x < 192 → need 5 0 (ty * 32 + ke) (aSet (a 2 as) a) 24 x ≤ 1 := by rw [M1.2.1 24 (by decide), aSet_k _ _ (by decide)]; exact B.2.2.2.2.2.2.1
  have hA : AO (need 5 0 (ty * 32 + ke) (aSet (a 2 as) a)) := by
    unfold AO
    rw [M1.2.1 2 (by decide), M1.2.1 3 (by decide), M1.2.1 4 (by decide), M1.2.1 5 (by decide), aSet_k _ _ (by decide), aSet_k _ _ (by decide), aSet_k _ _ (by decide), aSet_k _ _ (by decide)]
    exact B.2.2.2.2.2.1
  have hb0 : aBack (need 5 0 (ty * 32 + ke) (aSet (a 2 as) a)) = need 5 0 (ty * 32 + ke) (aSet (a 2 as) a) := by
    unfold aBack
    rw [M1.2.1 42 (by decide)]
    rfl
  refine R_seg sg_102_114 sk_102_114 (pc' := 137) (lv' := [(6, .int 0), (0, .ref 57), (1, .int (nI as)), (2, .int (nI ty)), (3, .int (nI ke)), (4, .int (nI tk))]) (st' := []) (S' := stt (up2 (up2 (up2 (up2 (nw v) 57 49 (nI as)) 57 50 0) 57 51 0) 57 47 0) τ) (kc' := 0) (ks' := 0) rfl ⟨trivial, trivial, ⟨rfl, ⟨rfl, rfl⟩⟩, trivial, trivial, ⟨rfl, ⟨rfl, rfl⟩⟩, trivial, trivial, ⟨rfl, ⟨rfl, rfl⟩⟩, trivial, trivial, ⟨rfl, ⟨rfl, rfl⟩⟩, trivial, (by decide), trivial⟩ ?_
  show RU_102 (d + 20) (0, 0) Post 137 ([(6, .int 0), (0, .ref 57), (1, .int (nI as)), (2, .int (nI ty)), (3, .int (nI ke)), (4, .int (nI tk))]) ([]) (stt (up2 (up2 (up2 (up2 (nw v) 57 49 (nI as)) 57 50 0) 57 51 0) 57 47 0) τ) 0 0
  rw [nw_up (w := v) (k := 57) (i := 49) (v := nI as) (n := as) rfl]
  rw [nw_up (w := up2 v 57 49 as) (k := 57) (i := 50) (v := 0) (n := 0) rfl]
  rw [nw_up (w := up2 (up2 v 57 49 as) 57 50 0) (k := 57) (i := 51) (v := 0) (n := 0) rfl]
  rw [nw_up (w := up2 (up2 (up2 v 57 49 as) 57 50 0) 57 51 0) (k := 57) (i := 47) (v := 0) (n := 0) rfl]
  refine Runs.lv (lv := [(6, .int 0), (0, .ref 57), (1, .int (nI as)), (2, .int (nI ty)), (3, .int (nI ke)), (4, .int (nI tk))]) ?_ _ (lvS_l (show ([6, 0, 1, 2, 3, 4] : List Nat).Nodup from by decide) (by intro q hq; simp only [List.mem_cons, List.not_mem_nil, or_false] at hq; rcases hq with rfl | rfl | rfl | rfl | rfl | rfl <;> rfl))
  rw [← nI_0]
  have k1 := @ml_102c d as ty ke tk (vSt as v) τ Post ?_ 193 0 (by omega) (by omega)
  · rw [flw_0, flw_0] at k1
    exact k1
  refine R_seg sg_102_167 sk_102_167 (pc' := 170) (lv' := [(6, .int 0), (0, .ref 57), (1, .int (nI as)), (2, .int (nI ty)), (3, .int (nI ke)), (4, .int (nI tk))]) (st' := []) (S' := stt (nw (flw (flw (vSt as v) 94 0 192 0) 95 0 192 0)) τ) (kc' := 0) (ks' := 0) rfl ⟨trivial, (by decide), trivial⟩ ?_
  refine Runs.lv (lv := [(6, .int 0), (0, .ref 57), (1, .int (nI as)), (2, .int (nI ty)), (3, .int (nI ke)), (4, .int (nI tk))]) ?_ _ (lvS_l (show ([6, 0, 1, 2, 3, 4] : List Nat).Nodup from by decide) (by intro q hq; simp only [List.mem_cons, List.not_mem_nil, or_false] at hq; rcases hq with rfl | rfl | rfl | rfl | rfl | rfl <;> rfl))
  rw [← nI_0]
  have k2 := @ml_102d d as ty ke tk (flw (flw (vSt as v) 94 0 192 0) 95 0 192 0) τ Post ?_ 3841 0 (by omega) (by omega)
  · rw [flw_0] at k2
    exact k2
  show RU_102 (d + 20) (0, 0) Post 192 [(0, .ref 57), (1, .int (nI as)), (2, .int (nI ty)), (3, .int (nI ke)), (4, .int (nI tk))] [] (stt (nw (vCl as v)) τ) 0 0
  refine R_seg sg_102_192 sk_102_192 (pc' := 200) (lv' := [(0, .ref 57), (1, .int (nI as)), (2, .int (nI ty)), (3, .int (nI ke)), (4, .int (nI tk))]) (st' := [.int 0, .int ((32 * (nI ty)) + (nI ke)), .ref 57]) (S' := stt (nw (vCl as v)) τ) (kc' := 0) (ks' := 0) rfl ⟨trivial, trivial, trivial, trivial, trivial, trivial, trivial, trivial⟩ ?_
  rw [show (32 : Int32) * nI ty + nI ke = nI (ty * 32 + ke) from by rw [show (32 : Int32) = nI 32 from rfl, pk_mul, nI_add, Nat.mul_comm]]
  skip
  refine R_virt ck_102_200 57 [.int (nI (ty * 32 + ke)), .int 0] 0 0 (r := []) rfl rfl rfl (Nat.le_of_ble_eq_true rfl) (Nat.le_refl _) (Nat.le_refl _) ?_
  refine m_need (d + 8) 5 0 (ty * 32 + ke) (aSet (a 2 as) a) (vCl as v) τ _ M0 ho hR0 (fun v1 hR1 hV1 => ?_)
  have e57 : v1 57 1 = a 1 4 := by rw [hR1.2.1.1, M1.2.1 1 (by decide), aSet_k _ _ (by decide)]
  show RU_102 (d + 20) (0, 0) Post 203 ([(0, .ref 57), (1, .int (nI as)), (2, .int (nI ty)), (3, .int (nI ke)), (4, .int (nI tk))]) ([]) (stt (nw v1) τ) 0 0
  refine R_seg sg_102_203 sk_102_203 (pc' := 215) (lv' := [(7, .int 1), (6, .int ((nI (v1 57 1)) + (nI tk))), (0, .ref 57), (1, .int (nI as)), (2, .int (nI ty)), (3, .int (nI ke)), (4, .int (nI tk))]) (st' := []) (S' := stt (nw v1) τ) (kc' := 0) (ks' := 0) rfl ⟨trivial, rfl, trivial, trivial, (by decide), trivial, (by decide), trivial⟩ ?_
  rw [e57]
  rw [nI_add (a 1 4)]
  refine Runs.lv (lv := [(7, .int 1), (6, .int (nI (a 1 4 + tk))), (0, .ref 57), (1, .int (nI as)), (2, .int (nI ty)), (3, .int (nI ke)), (4, .int (nI tk))]) ?_ _ (lvS_l (show ([7, 6, 0, 1, 2, 3, 4] : List Nat).Nodup from by decide) (by intro q hq; simp only [List.mem_cons, List.not_mem_nil, or_false] at hq; rcases hq with rfl | rfl | rfl | rfl | rfl | rfl | rfl <;> rfl))
  exact ml_102 (d := d) (ky := ty * 32 + ke) (tk + 1) tk _ v1 M1.1 C1 h24 hA hR1 hV1 (by rw [M1.2.1 1 (by decide), aSet_k _ _ (by decide)]) hnow (by rw [hb0]; exact hk) (by omega)
