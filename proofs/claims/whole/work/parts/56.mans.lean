/-! ===== the model answers ===== -/
def TLM (w : WW) (l : List Nat) (h : Bool) (u : WW) : Prop := SM w u ∧ u 57 59 = w 57 59 + l.length ∧ u 57 60 = (if h = true then 1 else w 57 60) ∧ (∀ i, i < w 57 59 → u 104 i = w 104 i) ∧ ∀ i, i < l.length → u 104 (w 57 59 + i) = l.getD i 0
theorem SM.tr {u v t : WW} (a : SM u v) (b : SM v t) : SM u t := ⟨fun k k1 k2 => (b.1 k k1 k2).trans (a.1 k k1 k2), fun i i1 i2 => (b.2 i i1 i2).trans (a.2 i i1 i2)⟩
theorem TLM.rf (w : WW) : TLM w [] false w := ⟨⟨fun _ _ _ => rfl, fun _ _ _ => rfl⟩, rfl, rfl, fun _ _ => rfl, fun i hi => absurd hi (Nat.not_lt_zero i)⟩
theorem TLM.tr {w u t : WW} {l m : List Nat} {h g : Bool} (a : TLM w l h u) (b : TLM u m g t) : TLM w (l ++ m) (h || g) t := by
  obtain ⟨a1, a3, a4, a5, a6⟩ := a
  obtain ⟨b1, b3, b4, b5, b6⟩ := b
  refine ⟨a1.tr b1, ?_, ?_, fun i hi => ?_, fun i hi => ?_⟩
  · rw [b3, a3, List.length_append]; omega
  · rw [b4, a4]
    cases h <;> cases g <;> simp
  · rw [b5 i (by omega), a5 i hi]
  · rw [List.length_append] at hi
    by_cases z : i < l.length
    · rw [b5 _ (by omega), a6 i z, List.getD_eq_getElem?_getD, List.getD_eq_getElem?_getD, List.getElem?_append_left z]
    · rw [show w 57 59 + i = u 57 59 + (i - l.length) by omega, b6 _ (by omega), List.getD_eq_getElem?_getD, List.getD_eq_getElem?_getD, List.getElem?_append_right (by omega)]
theorem TLM.put (u : WW) (v : Nat) : TLM u [v] false (up2 (up2 u 104 (u 57 59) v) 57 59 (u 57 59 + 1)) := by
  refine ⟨⟨fun k k1 k2 => by rw [up2_k _ _ _ _ k1, up2_k _ _ _ _ k2], fun i i1 i2 => ?_⟩, rfl, rfl, fun i hi => va_up_ne _ _ (show i ≠ u 57 59 by omega), fun i hi => ?_⟩
  · rw [up2_d _ _ _ _ i1]; rfl
  · have : i = 0 := by simpa using hi
    subst this
    exact va_up_self _ _ _
def mNull (w : WW) (v : Nat) : WW := up2 (up2 (up2 (up2 (up2 w 104 (w 57 59) 0) 57 59 (w 57 59 + 1)) 104 (w 57 59 + 1) v) 57 59 (w 57 59 + 1 + 1)) 57 60 1
theorem TLM.null (w : WW) (v : Nat) : TLM w [0, v] true (mNull w v) := by
  unfold mNull
  refine ⟨⟨fun k k1 k2 => by rw [up2_k _ _ _ _ k1, up2_k _ _ _ _ k1, up2_k _ _ _ _ k2, up2_k _ _ _ _ k1, up2_k _ _ _ _ k2], fun i i1 i2 => ?_⟩, rfl, rfl, fun i hi => ?_, fun i hi => ?_⟩
  · show va_up (va_up (va_up (w 57) 59 _) 59 _) 60 1 i = _
    rw [va_up_ne _ _ i2, va_up_ne _ _ i1, va_up_ne _ _ i1]
  · show va_up (va_up (w 104) (w 57 59) 0) (w 57 59 + 1) v i = _
    rw [va_up_ne _ _ (by omega), va_up_ne _ _ (by omega)]
  · show va_up (va_up (w 104) (w 57 59) 0) (w 57 59 + 1) v (w 57 59 + i) = _
    have hi : i < 2 := hi
    rcases (show i = 0 ∨ i = 1 by omega) with rfl | rfl
    · rw [va_up_ne _ _ (by omega)]; exact va_up_self _ _ _
    · exact va_up_self _ _ _
theorem m_119 {d : Nat} {w : WW} {τ : Nat → Nat → Int64} {v : Nat} (hn : w 57 59 < 60000) {Post : Option Value → Sto → Prop} (hp : Post none (stt (nw (up2 (up2 w 104 (w 57 59) v) 57 59 (w 57 59 + 1))) τ)) : Ex (d + 1) 119 [.ref 57, .int (nI v)] (stt (nw w) τ) 0 0 Post := by
  refine x_119 (σ := nw w) (n := w 57 59) rfl hn ?_
  unfold m_says
  rw [nw_up (n := v) rfl, nw_up (n := w 57 59 + 1) rfl]
  exact hp
theorem m_118 {d : Nat} {w : WW} {τ : Nat → Nat → Int64} {v : Nat} (hn : w 57 59 + 1 < 60000) {Post : Option Value → Sto → Prop} (hp : Post none (stt (nw (mNull w v)) τ)) : Ex (d + 2) 118 [.ref 57, .int (nI v)] (stt (nw w) τ) 0 0 Post := by
  refine x_118 (σ := nw w) (n := w 57 59) rfl hn ?_
  unfold m_says
  rw [nw_up (v := 0) (n := 0) rfl, nw_up (n := w 57 59 + 1) rfl, nw_up (n := v) rfl, nw_up (n := w 57 59 + 1 + 1) rfl, nw_up (v := 1) (n := 1) rfl]
  exact hp
def ANS (d k : Nat) : Prop := ∀ (n x : Nat) (a v : WW) (τ : Nat → Nat → Int64) (Post : Option Value → Sto → Prop), TCx a → OKn a k n x → mkd a n x → Rl a v → v 57 59 + 7 * Wt a k n ≤ 3500 → (∀ t, TLM v (TT a k n x).1 (TT a k n x).2.2 t → Post none (stt (nw t) τ)) → Ex (d + k + 4) 117 [.ref 57, .int (nI x), .int (nI n)] (stt (nw v) τ) 0 0 Post
set_option maxRecDepth 20000 in
theorem ml_117i {d k n x i : Nat} {a v : WW} {τ : Nat → Nat → Int64} {Post : Option Value → Sto → Prop} (hN : ANS d k) (C : TCx a) (ho : OKn a (k + 1) n x) (hm : mkd a n x) (hk10 : a 51 x = 10) (hR : Rl a v) (hi : i < a 37 n) (hk2 : a 20 (x / 32 * 4 + a 38 (n * 6 + i)) = 2) (hrm : v 57 59 + lcw a x (a 38 (n * 6 + i)) * (7 * Wt a k (a 39 (n * 6 + i))) ≤ 3500) (hk : ∀ t, TLM v (tls (TT a k) (a 39 (n * 6 + i)) (lkw a x (a 38 (n * 6 + i))) (lcw a x (a 38 (n * 6 + i)))).1 (tls (TT a k) (a 39 (n * 6 + i)) (lkw a x (a 38 (n * 6 + i))) (lcw a x (a 38 (n * 6 + i)))).2.2 t → RU_117 (d + k + 4) (0, 0) Post 242 [(7, .int (nI (lcw a x (a 38 (n * 6 + i))))), (6, .int (nI (a 39 (n * 6 + i)))), (5, .int (nI (x / 32 * 4 + a 38 (n * 6 + i)))), (4, .int (nI (a 38 (n * 6 + i)))), (3, .int (nI i)), (0, .ref 57), (1, .int (nI x)), (2, .int (nI n))] [] (stt (nw t) τ) 0 0) : ∀ (nn : Nat) (j : Nat) (t : WW), j ≤ lcw a x (a 38 (n * 6 + i)) → TLM v (tls (TT a k) (a 39 (n * 6 + i)) (lkw a x (a 38 (n * 6 + i))) j).1 (tls (TT a k) (a 39 (n * 6 + i)) (lkw a x (a 38 (n * 6 + i))) j).2.2 t → lcw a x (a 38 (n * 6 + i)) - j < nn → RU_117 (d + k + 4) (0, 0) Post 198 [(7, .int (nI j)), (6, .int (nI (a 39 (n * 6 + i)))), (5, .int (nI (x / 32 * 4 + a 38 (n * 6 + i)))), (4, .int (nI (a 38 (n * 6 + i)))), (3, .int (nI i)), (0, .ref 57), (1, .int (nI x)), (2, .int (nI n))] [] (stt (nw t) τ) 0 0 := by
  intro nn
  induction nn with
  | zero => intro j t hj ht hms; exact absurd hms (by omega)
  | succ nn ih =>
    intro j t hj ht hms
    obtain ⟨hS, hT, hZ, hF, hCl, hNZ⟩ := id C
    have hx := ho.2.1
    have t0 := hT.2 n ho.1
    have hT1 := hT.1
    have t01 := t0.1
    have hn1 := ho.1
    have hR := hR.sm ht.1
    have e90 := ((hR.1.2.2.2.1.2 n hn1).2.2 i hi).1
    have e91 := ((hR.1.2.2.2.1.2 n hn1).2.2 i hi).2
    have h38 : a 38 (n * 6 + i) < 4 := (t0.2 i hi).1
    have s1 := hS.2.1 (x / 32 * 4 + a 38 (n * 6 + i)) (by omega)
    have s2 := hS.2.2 (x * 4 + a 38 (n * 6 + i)) (by omega)
    have b23 := hZ.2 (x / 32 * 4 + a 38 (n * 6 + i)) (by omega)
    have hl := lcw_le hS hx h38
    have e73 := hR.1.q (73, 21) (by decide)
    have e79 := hR.1.q (79, 28) (by decide)
    have e74 := hR.1.q (74, 22) (by decide)
    have e80 := hR.1.q (80, 29) (by decide)
    have hmany : (if a 22 (x / 32 * 4 + a 38 (n * 6 + i)) ≤ a 28 (x * 4 + a 38 (n * 6 + i)) then a 22 (x / 32 * 4 + a 38 (n * 6 + i)) else a 28 (x * 4 + a 38 (n * 6 + i))) = lcw a x (a 38 (n * 6 + i)) := by unfold lcw; rw [if_neg (show ¬ a 20 (x / 32 * 4 + a 38 (n * 6 + i)) = 1 by omega), if_pos hk2]; (repeat' split) <;> omega
    have hL := TT_len hS hT k
    have e79 : t 79 = a 28 := e79
    have e74 : t 74 = a 22 := e74
    have e80 : t 80 = a 29 := e80
    refine R_seg sg_117_198 sk_117_198 (pc' := 204) (lv' := [(7, .int (nI j)), (6, .int (nI (a 39 (n * 6 + i)))), (5, .int (nI (x / 32 * 4 + a 38 (n * 6 + i)))), (4, .int (nI (a 38 (n * 6 + i)))), (3, .int (nI i)), (0, .ref 57), (1, .int (nI x)), (2, .int (nI n))]) (st' := [.int (nI (a 38 (n * 6 + i))), .int (nI x), .ref 57, .int (nI j)]) (S' := stt (nw t) τ) (kc' := 0) (ks' := 0) rfl ⟨trivial, trivial, trivial, trivial, trivial⟩ ?_
    refine R_virt ck_117_204 57 [.int (nI x), .int (nI (a 38 (n * 6 + i)))] 0 0 (r := [.int (nI j)]) rfl rfl rfl (Nat.le_of_ble_eq_true rfl) (Nat.le_refl _) (Nat.le_refl _) ?_
    refine x_106 (d := d + k + 3) (σ := nw t) (n := a 28 (x * 4 + a 38 (n * 6 + i))) (m := a 22 (x / 32 * 4 + a 38 (n * 6 + i))) hx h38 (by rw [← e79]; rfl) (by omega) (by rw [← e74]; rfl) (by omega) ?_
    rw [show (if a 22 (x / 32 * 4 + a 38 (n * 6 + i)) ≤ a 28 (x * 4 + a 38 (n * 6 + i)) then a 22 (x / 32 * 4 + a 38 (n * 6 + i)) else a 28 (x * 4 + a 38 (n * 6 + i))) = lcw a x (a 38 (n * 6 + i)) from hmany]
    show RU_117 (d + k + 4) (0, 0) Post 207 ([(7, .int (nI j)), (6, .int (nI (a 39 (n * 6 + i)))), (5, .int (nI (x / 32 * 4 + a 38 (n * 6 + i)))), (4, .int (nI (a 38 (n * 6 + i)))), (3, .int (nI i)), (0, .ref 57), (1, .int (nI x)), (2, .int (nI n))]) ([.int (nI (lcw a x (a 38 (n * 6 + i)))), .int (nI j)]) (stt (nw t) τ) 0 0
    refine R_icmp ck_117_207 (fun (c_207 : (nI (lcw a x (a 38 (n * 6 + i)))) ≤ (nI j)) => ?_) (fun (c_207 : ¬ (nI (lcw a x (a 38 (n * 6 + i)))) ≤ (nI j)) => ?_)
    · have c_207 : (lcw a x (a 38 (n * 6 + i))) ≤ j := (nI_leI (a := (lcw a x (a 38 (n * 6 + i)))) (b := j) (by omega) (by omega)).mp c_207
      have ej : j = lcw a x (a 38 (n * 6 + i)) := by omega
      subst ej
      exact hk t ht
    · have c_207 : j < (lcw a x (a 38 (n * 6 + i))) := Nat.not_le.mp (fun zq => c_207 ((nI_leI (a := (lcw a x (a 38 (n * 6 + i)))) (b := j) (by omega) (by omega)).mpr zq))
      have hroom : t 57 59 + 7 * Wt a k (a 39 (n * 6 + i)) ≤ 3500 := by
        have l1 := tls_len (rc := TT a k) (c := a 39 (n * 6 + i)) (lk := lkw a x (a 38 (n * 6 + i))) (B := 7 * Wt a k (a 39 (n * 6 + i))) j (fun j2 hj2 => hL _ _ (ho.child hS hT hi (by omega)))
        have l2 := ht.2.1
        have l3 : (j + 1) * (7 * Wt a k (a 39 (n * 6 + i))) ≤ lcw a x (a 38 (n * 6 + i)) * (7 * Wt a k (a 39 (n * 6 + i))) := Nat.mul_le_mul_right _ (by omega)
        rw [Nat.succ_mul] at l3
        omega
      refine R_seg sg_117_210 sk_117_210 (pc' := 219) (lv' := [(7, .int (nI j)), (6, .int (nI (a 39 (n * 6 + i)))), (5, .int (nI (x / 32 * 4 + a 38 (n * 6 + i)))), (4, .int (nI (a 38 (n * 6 + i)))), (3, .int (nI i)), (0, .ref 57), (1, .int (nI x)), (2, .int (nI n))]) (st' := [.int (nI (x / 32 * 4 + a 38 (n * 6 + i))), .ref 73, .int 32, .ref 57]) (S' := stt (nw t) τ) (kc' := 0) (ks' := 0) rfl ⟨trivial, trivial, trivial, rfl, trivial, trivial⟩ ?_
      refine R_iald ca_117_219 (j := x / 32 * 4 + a 38 (n * 6 + i)) rfl rfl (by omega) ?_
      refine R_seg sg_117_220 sk_117_220 (pc' := 227) (lv' := [(7, .int (nI j)), (6, .int (nI (a 39 (n * 6 + i)))), (5, .int (nI (x / 32 * 4 + a 38 (n * 6 + i)))), (4, .int (nI (a 38 (n * 6 + i)))), (3, .int (nI i)), (0, .ref 57), (1, .int (nI x)), (2, .int (nI n))]) (st' := [.int (nI j), .int (nI (a 38 (n * 6 + i))), .int (nI x), .ref 57, .int (32 * (nI (t 73 (x / 32 * 4 + a 38 (n * 6 + i))))), .ref 57]) (S' := stt (nw t) τ) (kc' := 0) (ks' := 0) rfl ⟨trivial, trivial, trivial, trivial, trivial, trivial⟩ ?_
      refine R_virt ck_117_227 57 [.int (nI x), .int (nI (a 38 (n * 6 + i))), .int (nI j)] 0 0 (r := [.int (32 * (nI (t 73 (x / 32 * 4 + a 38 (n * 6 + i))))), .ref 57]) rfl rfl rfl (Nat.le_of_ble_eq_true rfl) (Nat.le_refl _) (Nat.le_refl _) ?_
      refine x_107 (d := d + k + 3) (σ := nw t) hx h38 (j := j) (by omega) ?_
      rw [show nw t 80 (x * 4 + a 38 (n * 6 + i)) = nI (a 29 (x * 4 + a 38 (n * 6 + i))) from by rw [← e80]; rfl]
      show RU_117 (d + k + 4) (0, 0) Post 230 ([(7, .int (nI j)), (6, .int (nI (a 39 (n * 6 + i)))), (5, .int (nI (x / 32 * 4 + a 38 (n * 6 + i)))), (4, .int (nI (a 38 (n * 6 + i)))), (3, .int (nI i)), (0, .ref 57), (1, .int (nI x)), (2, .int (nI n))]) ([.int (nI (rk (nI (a 29 (x * 4 + a 38 (n * 6 + i)))) j)), .int (32 * (nI (t 73 (x / 32 * 4 + a 38 (n * 6 + i))))), .ref 57]) (stt (nw t) τ) 0 0
      refine R_seg sg_117_230 sk_117_230 (pc' := 233) (lv' := [(7, .int (nI j)), (6, .int (nI (a 39 (n * 6 + i)))), (5, .int (nI (x / 32 * 4 + a 38 (n * 6 + i)))), (4, .int (nI (a 38 (n * 6 + i)))), (3, .int (nI i)), (0, .ref 57), (1, .int (nI x)), (2, .int (nI n))]) (st' := [.int (nI (a 39 (n * 6 + i))), .int ((32 * (nI (t 73 (x / 32 * 4 + a 38 (n * 6 + i))))) + (nI (rk (nI (a 29 (x * 4 + a 38 (n * 6 + i)))) j))), .ref 57]) (S' := stt (nw t) τ) (kc' := 0) (ks' := 0) rfl ⟨trivial, trivial, trivial⟩ ?_
      rw [show (32 : Int32) * nI (t 73 (x / 32 * 4 + a 38 (n * 6 + i))) + nI (rk (nI (a 29 (x * 4 + a 38 (n * 6 + i)))) j) = nI (lkw a x (a 38 (n * 6 + i)) j) from by rw [e73]; unfold lkw; rw [if_neg (by omega)]; rw [show (32 : Int32) = nI 32 from rfl, pk_mul, nI_add, Nat.mul_comm]]
      refine R_virt ck_117_233 57 [.int (nI (lkw a x (a 38 (n * 6 + i)) j)), .int (nI (a 39 (n * 6 + i)))] 0 0 (r := []) rfl rfl rfl (Nat.le_of_ble_eq_true rfl) (Nat.le_refl _) (Nat.le_refl _) ?_
      refine hN (a 39 (n * 6 + i)) (lkw a x (a 38 (n * 6 + i)) j) a t τ _ C (ho.child hS hT hi c_207) (hCl n x hx hm hk10 i hi j c_207) hR hroom (fun t2 hT2 => ?_)
      show RU_117 (d + k + 4) (0, 0) Post 236 ([(7, .int (nI j)), (6, .int (nI (a 39 (n * 6 + i)))), (5, .int (nI (x / 32 * 4 + a 38 (n * 6 + i)))), (4, .int (nI (a 38 (n * 6 + i)))), (3, .int (nI i)), (0, .ref 57), (1, .int (nI x)), (2, .int (nI n))]) ([]) (stt (nw t2) τ) 0 0
      refine R_seg sg_117_236 sk_117_236 (pc' := 239) (lv' := [(7, .int ((nI j) + 1)), (6, .int (nI (a 39 (n * 6 + i)))), (5, .int (nI (x / 32 * 4 + a 38 (n * 6 + i)))), (4, .int (nI (a 38 (n * 6 + i)))), (3, .int (nI i)), (0, .ref 57), (1, .int (nI x)), (2, .int (nI n))]) (st' := []) (S' := stt (nw t2) τ) (kc' := 0) (ks' := 0) rfl ⟨(by decide), trivial⟩ ?_
      refine R_goto ck_117_239 ?_
      refine Runs.lv (lv := [(7, .int ((nI j) + 1)), (6, .int (nI (a 39 (n * 6 + i)))), (5, .int (nI (x / 32 * 4 + a 38 (n * 6 + i)))), (4, .int (nI (a 38 (n * 6 + i)))), (3, .int (nI i)), (0, .ref 57), (1, .int (nI x)), (2, .int (nI n))]) ?_ _ (lvS_l (show ([7, 6, 5, 4, 3, 0, 1, 2] : List Nat).Nodup from by decide) (by intro q hq; simp only [List.mem_cons, List.not_mem_nil, or_false] at hq; rcases hq with rfl | rfl | rfl | rfl | rfl | rfl | rfl | rfl <;> rfl))
      rw [nI_1 j]
      exact ih (j + 1) t2 (by omega) (ht.tr hT2) (by omega)
set_option maxRecDepth 20000 in
theorem ml_117 {d k n x : Nat} {a v : WW} {τ : Nat → Nat → Int64} {Post : Option Value → Sto → Prop} (hN : ANS d k) (C : TCx a) (ho : OKn a (k + 1) n x) (hm : mkd a n x) (hk10 : a 51 x = 10) (hnb : ¬ ∃ i, i < a 37 n ∧ bad a (TT a k) n x i) (hR : Rl a v) (hrm : v 57 59 + 7 * Wt a (k + 1) n ≤ 3500) (hp : ∀ t, TLM v (TT a (k + 1) n x).1 (TT a (k + 1) n x).2.2 t → Post none (stt (nw t) τ)) : ∀ (nn : Nat) (i : Nat) (t : WW), i ≤ a 37 n → TLM v (tfs a (TT a k) n x i).1 (tfs a (TT a k) n x i).2 t → a 37 n - i < nn → RU_117 (d + k + 4) (0, 0) Post 44 [(3, .int (nI i)), (0, .ref 57), (1, .int (nI x)), (2, .int (nI n))] [] (stt (nw t) τ) 0 0 := by
  intro nn
  induction nn with
  | zero => intro i t hi ht hms; exact absurd hms (by omega)
  | succ nn ih =>
    intro i t hi ht hms
    obtain ⟨hS, hT, hZ, hF, hCl, hNZ⟩ := id C
    have hx := ho.2.1
    have t0 := hT.2 n ho.1
    have hT1 := hT.1
    have t01 := t0.1
    have hn1 := ho.1
    have hR := hR.sm ht.1
    have e72 := hR.1.q (72, 20) (by decide)
    have e73 := hR.1.q (73, 21) (by decide)
    have e78 := hR.1.q (78, 27) (by decide)
    have e75 := hR.1.q (75, 23) (by decide)
    have e77 := hR.1.q (77, 26) (by decide)
    have e79 := hR.1.q (79, 28) (by decide)
    have e74 := hR.1.q (74, 22) (by decide)
    have e80 := hR.1.q (80, 29) (by decide)
    have e89 : t 89 n = a 37 n := (hR.1.2.2.2.1.2 n hn1).2.1
    have hL := TT_len hS hT k
    have e79 : t 79 = a 28 := e79
    have e74 : t 74 = a 22 := e74
    have e80 : t 80 = a 29 := e80
    refine R_seg sg_117_44 sk_117_44 (pc' := 50) (lv' := [(3, .int (nI i)), (0, .ref 57), (1, .int (nI x)), (2, .int (nI n))]) (st' := [.int (nI n), .ref 89, .int (nI i)]) (S' := stt (nw t) τ) (kc' := 0) (ks' := 0) rfl ⟨trivial, trivial, rfl, trivial, trivial⟩ ?_
    refine R_iald ca_117_50 (j := n) rfl rfl (by omega) ?_
    show RU_117 (d + k + 4) (0, 0) Post 51 ([(3, .int (nI i)), (0, .ref 57), (1, .int (nI x)), (2, .int (nI n))]) ([.int (nI (t 89 n)), .int (nI i)]) (stt (nw t) τ) 0 0
    rw [e89]
    refine R_icmp ck_117_51 (fun (c_51 : (nI (a 37 n)) ≤ (nI i)) => ?_) (fun (c_51 : ¬ (nI (a 37 n)) ≤ (nI i)) => ?_)
    · have c_51 : (a 37 n) ≤ i := (nI_leI (a := (a 37 n)) (b := i) (by omega) (by omega)).mp c_51
      refine R_ret ck_117_248 rfl ?_
      have ei : i = a 37 n := by omega
      subst ei
      rw [TT_s, if_pos hk10, if_neg hnb] at hp
      exact hp t ht
    · have c_51 : i < (a 37 n) := Nat.not_le.mp (fun zq => c_51 ((nI_leI (a := (a 37 n)) (b := i) (by omega) (by omega)).mpr zq))
      have e90 := ((hR.1.2.2.2.1.2 n hn1).2.2 i c_51).1
      have e91 := ((hR.1.2.2.2.1.2 n hn1).2.2 i c_51).2
      have h38 : a 38 (n * 6 + i) < 4 := (t0.2 i c_51).1
      have s1 := hS.2.1 (x / 32 * 4 + a 38 (n * 6 + i)) (by omega)
      have s2 := hS.2.2 (x * 4 + a 38 (n * 6 + i)) (by omega)
      have b23 := hZ.2 (x / 32 * 4 + a 38 (n * 6 + i)) (by omega)
      have hl := lcw_le hS hx h38
      have hroom : t 57 59 + (1 + 7 * wtc a (Wt a k) n i) ≤ 3500 := by
        have l1 := tfs_len hS hT hL ho i (by omega)
        have l2 := ht.2.1
        have l3 := wtf_room (rc := Wt a k) c_51 t01.2.2.1
        rw [Wt_s] at hrm
        omega
      refine R_seg sg_117_54 sk_117_54 (pc' := 64) (lv' := [(3, .int (nI i)), (0, .ref 57), (1, .int (nI x)), (2, .int (nI n))]) (st' := [.int ((6 * (nI n)) + (nI i)), .ref 90]) (S' := stt (nw t) τ) (kc' := 0) (ks' := 0) rfl ⟨trivial, rfl, trivial, trivial, trivial, trivial, trivial, trivial⟩ ?_
      refine R_iald ca_117_64 (j := 6 * n + i) rfl (by first | (simp only [nl_0, nl_1, nl_2, nl_3, nl_4, nl_5, nl_6, nl_8, nl_20, nl_31, nl_32, pk_mul, nI_add]; done) | (simp only [nl_0, nl_1, nl_2, nl_3, nl_4, nl_5, nl_6, nl_8, nl_20, nl_31, nl_32, pk_mul, nI_add]; congr 1; omega)) (by omega) ?_
      show RU_117 (d + k + 4) (0, 0) Post 65 ([(3, .int (nI i)), (0, .ref 57), (1, .int (nI x)), (2, .int (nI n))]) ([.int (nI (t 90 (6 * n + i)))]) (stt (nw t) τ) 0 0
      rw [e90]
      refine R_seg sg_117_65 sk_117_65 (pc' := 88) (lv' := [(5, .int ((4 * ((nI x) / 32)) + (nI (a 38 (n * 6 + i))))), (4, .int (nI (a 38 (n * 6 + i)))), (3, .int (nI i)), (0, .ref 57), (1, .int (nI x)), (2, .int (nI n))]) (st' := [.int ((6 * (nI n)) + (nI i)), .ref 91]) (S' := stt (nw t) τ) (kc' := 0) (ks' := 0) rfl ⟨(by decide), trivial, trivial, trivial, (by decide), trivial, trivial, trivial, (by decide), trivial, rfl, trivial, trivial, trivial, trivial, trivial, trivial⟩ ?_
      rw [show (4 : Int32) * (nI x / 32) + nI (a 38 (n * 6 + i)) = nI (x / 32 * 4 + a 38 (n * 6 + i)) from by rw [show nI x / 32 = nI (x / 32) from pk_div (d := 32) (by omega) (by omega) (by omega), show (4 : Int32) = nI 4 from rfl, pk_mul, nI_add, Nat.mul_comm]]
      refine R_iald ca_117_88 (j := 6 * n + i) rfl (by first | (simp only [nl_0, nl_1, nl_2, nl_3, nl_4, nl_5, nl_6, nl_8, nl_20, nl_31, nl_32, pk_mul, nI_add]; done) | (simp only [nl_0, nl_1, nl_2, nl_3, nl_4, nl_5, nl_6, nl_8, nl_20, nl_31, nl_32, pk_mul, nI_add]; congr 1; omega)) (by omega) ?_
      show RU_117 (d + k + 4) (0, 0) Post 89 ([(5, .int (nI (x / 32 * 4 + a 38 (n * 6 + i)))), (4, .int (nI (a 38 (n * 6 + i)))), (3, .int (nI i)), (0, .ref 57), (1, .int (nI x)), (2, .int (nI n))]) ([.int (nI (t 91 (6 * n + i)))]) (stt (nw t) τ) 0 0
      rw [e91]
      refine R_seg sg_117_89 sk_117_89 (pc' := 97) (lv' := [(6, .int (nI (a 39 (n * 6 + i)))), (5, .int (nI (x / 32 * 4 + a 38 (n * 6 + i)))), (4, .int (nI (a 38 (n * 6 + i)))), (3, .int (nI i)), (0, .ref 57), (1, .int (nI x)), (2, .int (nI n))]) (st' := [.int (nI (x / 32 * 4 + a 38 (n * 6 + i))), .ref 72]) (S' := stt (nw t) τ) (kc' := 0) (ks' := 0) rfl ⟨(by decide), trivial, rfl, trivial, trivial⟩ ?_
      refine R_iald ca_117_97 (j := x / 32 * 4 + a 38 (n * 6 + i)) rfl rfl (by omega) ?_
      show RU_117 (d + k + 4) (0, 0) Post 98 ([(6, .int (nI (a 39 (n * 6 + i)))), (5, .int (nI (x / 32 * 4 + a 38 (n * 6 + i)))), (4, .int (nI (a 38 (n * 6 + i)))), (3, .int (nI i)), (0, .ref 57), (1, .int (nI x)), (2, .int (nI n))]) ([.int (nI (t 72 (x / 32 * 4 + a 38 (n * 6 + i))))]) (stt (nw t) τ) 0 0
      rw [e72]
      refine R_if ck_117_98 (fun (c_98 : ¬ (nI (a 20 (x / 32 * 4 + a 38 (n * 6 + i)))) = 0) => ?_) (fun (c_98 : ¬ ¬ (nI (a 20 (x / 32 * 4 + a 38 (n * 6 + i)))) = 0) => ?_)
      · have c_98 : ¬ (a 20 (x / 32 * 4 + a 38 (n * 6 + i))) = 0 := fun zq => c_98 ((nI_eq (a := (a 20 (x / 32 * 4 + a 38 (n * 6 + i)))) (b := 0) (by omega) (by omega)).mpr zq)
        have hge := (wtc_ge hS hT ho c_51 c_98).1
        have hge2 := (wtc_ge hS hT ho c_51 c_98).2
        refine R_seg sg_117_119 sk_117_119 (pc' := 125) (lv' := [(6, .int (nI (a 39 (n * 6 + i)))), (5, .int (nI (x / 32 * 4 + a 38 (n * 6 + i)))), (4, .int (nI (a 38 (n * 6 + i)))), (3, .int (nI i)), (0, .ref 57), (1, .int (nI x)), (2, .int (nI n))]) (st' := [.int (nI (x / 32 * 4 + a 38 (n * 6 + i))), .ref 72]) (S' := stt (nw t) τ) (kc' := 0) (ks' := 0) rfl ⟨trivial, rfl, trivial, trivial⟩ ?_
        refine R_iald ca_117_125 (j := x / 32 * 4 + a 38 (n * 6 + i)) rfl rfl (by omega) ?_
        show RU_117 (d + k + 4) (0, 0) Post 126 ([(6, .int (nI (a 39 (n * 6 + i)))), (5, .int (nI (x / 32 * 4 + a 38 (n * 6 + i)))), (4, .int (nI (a 38 (n * 6 + i)))), (3, .int (nI i)), (0, .ref 57), (1, .int (nI x)), (2, .int (nI n))]) ([.int (nI (t 72 (x / 32 * 4 + a 38 (n * 6 + i))))]) (stt (nw t) τ) 0 0
        rw [e72]
        refine R_seg sg_117_126 sk_117_126 (pc' := 127) (lv' := [(6, .int (nI (a 39 (n * 6 + i)))), (5, .int (nI (x / 32 * 4 + a 38 (n * 6 + i)))), (4, .int (nI (a 38 (n * 6 + i)))), (3, .int (nI i)), (0, .ref 57), (1, .int (nI x)), (2, .int (nI n))]) (st' := [.int 1, .int (nI (a 20 (x / 32 * 4 + a 38 (n * 6 + i))))]) (S' := stt (nw t) τ) (kc' := 0) (ks' := 0) rfl ⟨trivial, trivial⟩ ?_
        refine R_icmp ck_117_127 (fun (c_127 : ¬ (nI (a 20 (x / 32 * 4 + a 38 (n * 6 + i)))) = 1) => ?_) (fun (c_127 : ¬ ¬ (nI (a 20 (x / 32 * 4 + a 38 (n * 6 + i)))) = 1) => ?_)
        · have c_127 : ¬ (a 20 (x / 32 * 4 + a 38 (n * 6 + i))) = 1 := fun zq => c_127 ((nI_eq (a := (a 20 (x / 32 * 4 + a 38 (n * 6 + i)))) (b := 1) (by omega) (by omega)).mpr zq)
          have hk2 : a 20 (x / 32 * 4 + a 38 (n * 6 + i)) = 2 := by omega
          have hmany : (if a 22 (x / 32 * 4 + a 38 (n * 6 + i)) ≤ a 28 (x * 4 + a 38 (n * 6 + i)) then a 22 (x / 32 * 4 + a 38 (n * 6 + i)) else a 28 (x * 4 + a 38 (n * 6 + i))) = lcw a x (a 38 (n * 6 + i)) := by unfold lcw; rw [if_neg (show ¬ a 20 (x / 32 * 4 + a 38 (n * 6 + i)) = 1 by omega), if_pos hk2]; (repeat' split) <;> omega
          refine R_seg sg_117_184 sk_117_184 (pc' := 189) (lv' := [(6, .int (nI (a 39 (n * 6 + i)))), (5, .int (nI (x / 32 * 4 + a 38 (n * 6 + i)))), (4, .int (nI (a 38 (n * 6 + i)))), (3, .int (nI i)), (0, .ref 57), (1, .int (nI x)), (2, .int (nI n))]) (st' := [.int (nI (a 38 (n * 6 + i))), .int (nI x), .ref 57, .ref 57]) (S' := stt (nw t) τ) (kc' := 0) (ks' := 0) rfl ⟨trivial, trivial, trivial, trivial, trivial⟩ ?_
          refine R_virt ck_117_189 57 [.int (nI x), .int (nI (a 38 (n * 6 + i)))] 0 0 (r := [.ref 57]) rfl rfl rfl (Nat.le_of_ble_eq_true rfl) (Nat.le_refl _) (Nat.le_refl _) ?_
          refine x_106 (d := d + k + 3) (σ := nw t) (n := a 28 (x * 4 + a 38 (n * 6 + i))) (m := a 22 (x / 32 * 4 + a 38 (n * 6 + i))) hx h38 (by rw [← e79]; rfl) (by omega) (by rw [← e74]; rfl) (by omega) ?_
          rw [show (if a 22 (x / 32 * 4 + a 38 (n * 6 + i)) ≤ a 28 (x * 4 + a 38 (n * 6 + i)) then a 22 (x / 32 * 4 + a 38 (n * 6 + i)) else a 28 (x * 4 + a 38 (n * 6 + i))) = lcw a x (a 38 (n * 6 + i)) from hmany]
          show RU_117 (d + k + 4) (0, 0) Post 192 ([(6, .int (nI (a 39 (n * 6 + i)))), (5, .int (nI (x / 32 * 4 + a 38 (n * 6 + i)))), (4, .int (nI (a 38 (n * 6 + i)))), (3, .int (nI i)), (0, .ref 57), (1, .int (nI x)), (2, .int (nI n))]) ([.int (nI (lcw a x (a 38 (n * 6 + i)))), .ref 57]) (stt (nw t) τ) 0 0
          refine R_virt ck_117_192 57 [.int (nI (lcw a x (a 38 (n * 6 + i))))] 0 0 (r := []) rfl rfl rfl (Nat.le_of_ble_eq_true rfl) (Nat.le_refl _) (Nat.le_refl _) ?_
          refine m_119 (d := d + k + 3) (w := t) (v := lcw a x (a 38 (n * 6 + i))) (by omega) ?_
          show RU_117 (d + k + 4) (0, 0) Post 195 ([(6, .int (nI (a 39 (n * 6 + i)))), (5, .int (nI (x / 32 * 4 + a 38 (n * 6 + i)))), (4, .int (nI (a 38 (n * 6 + i)))), (3, .int (nI i)), (0, .ref 57), (1, .int (nI x)), (2, .int (nI n))]) ([]) (stt (nw (up2 (up2 t 104 (t 57 59) (lcw a x (a 38 (n * 6 + i)))) 57 59 (t 57 59 + 1))) τ) 0 0
          refine R_seg sg_117_195 sk_117_195 (pc' := 198) (lv' := [(7, .int 0), (6, .int (nI (a 39 (n * 6 + i)))), (5, .int (nI (x / 32 * 4 + a 38 (n * 6 + i)))), (4, .int (nI (a 38 (n * 6 + i)))), (3, .int (nI i)), (0, .ref 57), (1, .int (nI x)), (2, .int (nI n))]) (st' := []) (S' := stt (nw (up2 (up2 t 104 (t 57 59) (lcw a x (a 38 (n * 6 + i)))) 57 59 (t 57 59 + 1))) τ) (kc' := 0) (ks' := 0) rfl ⟨trivial, (by decide), trivial⟩ ?_
          refine Runs.lv (lv := [(7, .int 0), (6, .int (nI (a 39 (n * 6 + i)))), (5, .int (nI (x / 32 * 4 + a 38 (n * 6 + i)))), (4, .int (nI (a 38 (n * 6 + i)))), (3, .int (nI i)), (0, .ref 57), (1, .int (nI x)), (2, .int (nI n))]) ?_ _ (lvS_l (show ([7, 6, 5, 4, 3, 0, 1, 2] : List Nat).Nodup from by decide) (by intro q hq; simp only [List.mem_cons, List.not_mem_nil, or_false] at hq; rcases hq with rfl | rfl | rfl | rfl | rfl | rfl | rfl | rfl <;> rfl))
          rw [← nI_0]
          refine ml_117i (v := up2 (up2 t 104 (t 57 59) (lcw a x (a 38 (n * 6 + i)))) 57 59 (t 57 59 + 1)) hN C ho hm hk10 (hR.sm (TLM.put t _).1) c_51 hk2 (show t 57 59 + 1 + _ ≤ 3500 by omega) (fun t3 hT3 => ?_) (lcw a x (a 38 (n * 6 + i)) + 1) 0 _ (Nat.zero_le _) (TLM.rf _) (by omega)
          refine R_seg sg_117_242 sk_117_242 (pc' := 245) (lv' := [(3, .int ((nI i) + 1)), (7, .int (nI (lcw a x (a 38 (n * 6 + i))))), (6, .int (nI (a 39 (n * 6 + i)))), (5, .int (nI (x / 32 * 4 + a 38 (n * 6 + i)))), (4, .int (nI (a 38 (n * 6 + i)))), (0, .ref 57), (1, .int (nI x)), (2, .int (nI n))]) (st' := []) (S' := stt (nw t3) τ) (kc' := 0) (ks' := 0) rfl ⟨(by decide), trivial⟩ ?_
          refine R_goto ck_117_245 ?_
          refine Runs.lv (lv := [(3, .int ((nI i) + 1)), (0, .ref 57), (1, .int (nI x)), (2, .int (nI n))]) ?_ _ (lvS_l (show ([3, 0, 1, 2] : List Nat).Nodup from by decide) (by intro q hq; simp only [List.mem_cons, List.not_mem_nil, or_false] at hq; rcases hq with rfl | rfl | rfl | rfl <;> rfl))
          rw [nI_1 i]
          have hfd : TLM t (tfd a (TT a k) n x i).1 (tfd a (TT a k) n x i).2.2 t3 := by unfold tfd; rw [if_neg c_98, if_pos hk2]; exact (TLM.put t (lcw a x (a 38 (n * 6 + i)))).tr hT3
          exact ih (i + 1) _ (by omega) (ht.tr hfd) (by omega)
        · have c_127 : (a 20 (x / 32 * 4 + a 38 (n * 6 + i))) = 1 := (nI_eq (a := (a 20 (x / 32 * 4 + a 38 (n * 6 + i)))) (b := 1) (by omega) (by omega)).mp (Classical.not_not.mp c_127)
          have hk1 : a 20 (x / 32 * 4 + a 38 (n * 6 + i)) = 1 := c_127
          refine R_seg sg_117_130 sk_117_130 (pc' := 140) (lv' := [(6, .int (nI (a 39 (n * 6 + i)))), (5, .int (nI (x / 32 * 4 + a 38 (n * 6 + i)))), (4, .int (nI (a 38 (n * 6 + i)))), (3, .int (nI i)), (0, .ref 57), (1, .int (nI x)), (2, .int (nI n))]) (st' := [.int ((4 * (nI x)) + (nI (a 38 (n * 6 + i)))), .ref 78]) (S' := stt (nw t) τ) (kc' := 0) (ks' := 0) rfl ⟨trivial, rfl, trivial, trivial, trivial, trivial, trivial, trivial⟩ ?_
          refine R_iald ca_117_140 (j := x * 4 + a 38 (n * 6 + i)) rfl (by first | (simp only [nl_0, nl_1, nl_2, nl_3, nl_4, nl_5, nl_6, nl_8, nl_20, nl_31, nl_32, pk_mul, nI_add]; done) | (simp only [nl_0, nl_1, nl_2, nl_3, nl_4, nl_5, nl_6, nl_8, nl_20, nl_31, nl_32, pk_mul, nI_add]; congr 1; omega)) (by omega) ?_
          show RU_117 (d + k + 4) (0, 0) Post 141 ([(6, .int (nI (a 39 (n * 6 + i)))), (5, .int (nI (x / 32 * 4 + a 38 (n * 6 + i)))), (4, .int (nI (a 38 (n * 6 + i)))), (3, .int (nI i)), (0, .ref 57), (1, .int (nI x)), (2, .int (nI n))]) ([.int (nI (t 78 (x * 4 + a 38 (n * 6 + i))))]) (stt (nw t) τ) 0 0
          rw [e78]
          refine R_seg sg_117_141 sk_117_141 (pc' := 142) (lv' := [(6, .int (nI (a 39 (n * 6 + i)))), (5, .int (nI (x / 32 * 4 + a 38 (n * 6 + i)))), (4, .int (nI (a 38 (n * 6 + i)))), (3, .int (nI i)), (0, .ref 57), (1, .int (nI x)), (2, .int (nI n))]) (st' := [.int (-1), .int (nI (a 27 (x * 4 + a 38 (n * 6 + i))))]) (S' := stt (nw t) τ) (kc' := 0) (ks' := 0) rfl ⟨trivial, trivial⟩ ?_
          refine R_icmp ck_117_142 (fun (c_142 : ¬ (nI (a 27 (x * 4 + a 38 (n * 6 + i)))) = (-1)) => ?_) (fun (c_142 : ¬ ¬ (nI (a 27 (x * 4 + a 38 (n * 6 + i)))) = (-1)) => ?_)
          · have c_142 : ¬ a 27 (x * 4 + a 38 (n * 6 + i)) = N1 := fun z => c_142 ((nI_N1 (by omega)).mpr z)
            have hlc : lcw a x (a 38 (n * 6 + i)) = 1 := by unfold lcw; rw [if_pos hk1, if_neg c_142]
            refine R_seg sg_117_153 sk_117_153 (pc' := 162) (lv' := [(6, .int (nI (a 39 (n * 6 + i)))), (5, .int (nI (x / 32 * 4 + a 38 (n * 6 + i)))), (4, .int (nI (a 38 (n * 6 + i)))), (3, .int (nI i)), (0, .ref 57), (1, .int (nI x)), (2, .int (nI n))]) (st' := [.int (nI (x / 32 * 4 + a 38 (n * 6 + i))), .ref 73, .int 32, .ref 57]) (S' := stt (nw t) τ) (kc' := 0) (ks' := 0) rfl ⟨trivial, trivial, trivial, rfl, trivial, trivial⟩ ?_
            refine R_iald ca_117_162 (j := x / 32 * 4 + a 38 (n * 6 + i)) rfl rfl (by omega) ?_
            refine R_seg sg_117_163 sk_117_163 (pc' := 174) (lv' := [(6, .int (nI (a 39 (n * 6 + i)))), (5, .int (nI (x / 32 * 4 + a 38 (n * 6 + i)))), (4, .int (nI (a 38 (n * 6 + i)))), (3, .int (nI i)), (0, .ref 57), (1, .int (nI x)), (2, .int (nI n))]) (st' := [.int ((4 * (nI x)) + (nI (a 38 (n * 6 + i)))), .ref 78, .int (32 * (nI (t 73 (x / 32 * 4 + a 38 (n * 6 + i))))), .ref 57]) (S' := stt (nw t) τ) (kc' := 0) (ks' := 0) rfl ⟨trivial, trivial, rfl, trivial, trivial, trivial, trivial, trivial, trivial⟩ ?_
            refine R_iald ca_117_174 (j := x * 4 + a 38 (n * 6 + i)) rfl (by first | (simp only [nl_0, nl_1, nl_2, nl_3, nl_4, nl_5, nl_6, nl_8, nl_20, nl_31, nl_32, pk_mul, nI_add]; done) | (simp only [nl_0, nl_1, nl_2, nl_3, nl_4, nl_5, nl_6, nl_8, nl_20, nl_31, nl_32, pk_mul, nI_add]; congr 1; omega)) (by omega) ?_
            show RU_117 (d + k + 4) (0, 0) Post 175 ([(6, .int (nI (a 39 (n * 6 + i)))), (5, .int (nI (x / 32 * 4 + a 38 (n * 6 + i)))), (4, .int (nI (a 38 (n * 6 + i)))), (3, .int (nI i)), (0, .ref 57), (1, .int (nI x)), (2, .int (nI n))]) ([.int (nI (t 78 (x * 4 + a 38 (n * 6 + i)))), .int (32 * (nI (t 73 (x / 32 * 4 + a 38 (n * 6 + i))))), .ref 57]) (stt (nw t) τ) 0 0
            rw [e78]
            refine R_seg sg_117_175 sk_117_175 (pc' := 178) (lv' := [(6, .int (nI (a 39 (n * 6 + i)))), (5, .int (nI (x / 32 * 4 + a 38 (n * 6 + i)))), (4, .int (nI (a 38 (n * 6 + i)))), (3, .int (nI i)), (0, .ref 57), (1, .int (nI x)), (2, .int (nI n))]) (st' := [.int (nI (a 39 (n * 6 + i))), .int ((32 * (nI (t 73 (x / 32 * 4 + a 38 (n * 6 + i))))) + (nI (a 27 (x * 4 + a 38 (n * 6 + i))))), .ref 57]) (S' := stt (nw t) τ) (kc' := 0) (ks' := 0) rfl ⟨trivial, trivial, trivial⟩ ?_
            rw [show (32 : Int32) * nI (t 73 (x / 32 * 4 + a 38 (n * 6 + i))) + nI (a 27 (x * 4 + a 38 (n * 6 + i))) = nI (lkw a x (a 38 (n * 6 + i)) 0) from by rw [e73]; unfold lkw; rw [if_pos hk1]; rw [show (32 : Int32) = nI 32 from rfl, pk_mul, nI_add, Nat.mul_comm]]
            refine R_virt ck_117_178 57 [.int (nI (lkw a x (a 38 (n * 6 + i)) 0)), .int (nI (a 39 (n * 6 + i)))] 0 0 (r := []) rfl rfl rfl (Nat.le_of_ble_eq_true rfl) (Nat.le_refl _) (Nat.le_refl _) ?_
            refine hN (a 39 (n * 6 + i)) (lkw a x (a 38 (n * 6 + i)) 0) a t τ _ C (ho.child hS hT c_51 (by rw [hlc]; decide)) (hCl n x hx hm hk10 i c_51 0 (by rw [hlc]; decide)) hR (by rw [hlc] at hge; omega) (fun t2 hT2 => ?_)
            show RU_117 (d + k + 4) (0, 0) Post 181 ([(6, .int (nI (a 39 (n * 6 + i)))), (5, .int (nI (x / 32 * 4 + a 38 (n * 6 + i)))), (4, .int (nI (a 38 (n * 6 + i)))), (3, .int (nI i)), (0, .ref 57), (1, .int (nI x)), (2, .int (nI n))]) ([]) (stt (nw t2) τ) 0 0
            refine R_goto ck_117_181 ?_
            refine R_seg sg_117_242 sk_117_242 (pc' := 245) (lv' := [(3, .int ((nI i) + 1)), (6, .int (nI (a 39 (n * 6 + i)))), (5, .int (nI (x / 32 * 4 + a 38 (n * 6 + i)))), (4, .int (nI (a 38 (n * 6 + i)))), (0, .ref 57), (1, .int (nI x)), (2, .int (nI n))]) (st' := []) (S' := stt (nw t2) τ) (kc' := 0) (ks' := 0) rfl ⟨(by decide), trivial⟩ ?_
            refine R_goto ck_117_245 ?_
            refine Runs.lv (lv := [(3, .int ((nI i) + 1)), (0, .ref 57), (1, .int (nI x)), (2, .int (nI n))]) ?_ _ (lvS_l (show ([3, 0, 1, 2] : List Nat).Nodup from by decide) (by intro q hq; simp only [List.mem_cons, List.not_mem_nil, or_false] at hq; rcases hq with rfl | rfl | rfl | rfl <;> rfl))
            rw [nI_1 i]
            have hfd : TLM t (tfd a (TT a k) n x i).1 (tfd a (TT a k) n x i).2.2 t2 := by unfold tfd; rw [if_neg c_98, if_neg (by omega), if_neg (by omega), hlc, tls_1]; exact hT2
            exact ih (i + 1) _ (by omega) (ht.tr hfd) (by omega)
          · have c_142 : a 27 (x * 4 + a 38 (n * 6 + i)) = N1 := (nI_N1 (by omega)).mp (Classical.not_not.mp c_142)
            have hlc : lcw a x (a 38 (n * 6 + i)) = 0 := by unfold lcw; rw [if_pos hk1, if_pos c_142]
            refine R_seg sg_117_145 sk_117_145 (pc' := 147) (lv' := [(6, .int (nI (a 39 (n * 6 + i)))), (5, .int (nI (x / 32 * 4 + a 38 (n * 6 + i)))), (4, .int (nI (a 38 (n * 6 + i)))), (3, .int (nI i)), (0, .ref 57), (1, .int (nI x)), (2, .int (nI n))]) (st' := [.int 2, .ref 57]) (S' := stt (nw t) τ) (kc' := 0) (ks' := 0) rfl ⟨trivial, trivial, trivial⟩ ?_
            refine R_virt ck_117_147 57 [.int 2] 0 0 (r := []) rfl rfl rfl (Nat.le_of_ble_eq_true rfl) (Nat.le_refl _) (Nat.le_refl _) ?_
            refine m_118 (d := d + k + 2) (w := t) (v := 2) (by omega) ?_
            show RU_117 (d + k + 4) (0, 0) Post 150 ([(6, .int (nI (a 39 (n * 6 + i)))), (5, .int (nI (x / 32 * 4 + a 38 (n * 6 + i)))), (4, .int (nI (a 38 (n * 6 + i)))), (3, .int (nI i)), (0, .ref 57), (1, .int (nI x)), (2, .int (nI n))]) ([]) (stt (nw (mNull t 2)) τ) 0 0
            refine R_goto ck_117_150 ?_
            refine R_seg sg_117_242 sk_117_242 (pc' := 245) (lv' := [(3, .int ((nI i) + 1)), (6, .int (nI (a 39 (n * 6 + i)))), (5, .int (nI (x / 32 * 4 + a 38 (n * 6 + i)))), (4, .int (nI (a 38 (n * 6 + i)))), (0, .ref 57), (1, .int (nI x)), (2, .int (nI n))]) (st' := []) (S' := stt (nw (mNull t 2)) τ) (kc' := 0) (ks' := 0) rfl ⟨(by decide), trivial⟩ ?_
            refine R_goto ck_117_245 ?_
            refine Runs.lv (lv := [(3, .int ((nI i) + 1)), (0, .ref 57), (1, .int (nI x)), (2, .int (nI n))]) ?_ _ (lvS_l (show ([3, 0, 1, 2] : List Nat).Nodup from by decide) (by intro q hq; simp only [List.mem_cons, List.not_mem_nil, or_false] at hq; rcases hq with rfl | rfl | rfl | rfl <;> rfl))
            rw [nI_1 i]
            have hfd : TLM t (tfd a (TT a k) n x i).1 (tfd a (TT a k) n x i).2.2 (mNull t 2) := by unfold tfd; rw [if_neg c_98, if_neg (by omega), if_pos hlc]; exact TLM.null t 2
            exact ih (i + 1) _ (by omega) (ht.tr hfd) (by omega)
      · have c_98 : (a 20 (x / 32 * 4 + a 38 (n * 6 + i))) = 0 := (nI_eq (a := (a 20 (x / 32 * 4 + a 38 (n * 6 + i)))) (b := 0) (by omega) (by omega)).mp (Classical.not_not.mp c_98)
        refine R_seg sg_117_101 sk_117_101 (pc' := 112) (lv' := [(6, .int (nI (a 39 (n * 6 + i)))), (5, .int (nI (x / 32 * 4 + a 38 (n * 6 + i)))), (4, .int (nI (a 38 (n * 6 + i)))), (3, .int (nI i)), (0, .ref 57), (1, .int (nI x)), (2, .int (nI n))]) (st' := [.int ((4 * (nI x)) + (nI (a 38 (n * 6 + i)))), .ref 77, .ref 57]) (S' := stt (nw t) τ) (kc' := 0) (ks' := 0) rfl ⟨trivial, trivial, rfl, trivial, trivial, trivial, trivial, trivial, trivial⟩ ?_
        refine R_iald ca_117_112 (j := x * 4 + a 38 (n * 6 + i)) rfl (by first | (simp only [nl_0, nl_1, nl_2, nl_3, nl_4, nl_5, nl_6, nl_8, nl_20, nl_31, nl_32, pk_mul, nI_add]; done) | (simp only [nl_0, nl_1, nl_2, nl_3, nl_4, nl_5, nl_6, nl_8, nl_20, nl_31, nl_32, pk_mul, nI_add]; congr 1; omega)) (by omega) ?_
        show RU_117 (d + k + 4) (0, 0) Post 113 ([(6, .int (nI (a 39 (n * 6 + i)))), (5, .int (nI (x / 32 * 4 + a 38 (n * 6 + i)))), (4, .int (nI (a 38 (n * 6 + i)))), (3, .int (nI i)), (0, .ref 57), (1, .int (nI x)), (2, .int (nI n))]) ([.int (nI (t 77 (x * 4 + a 38 (n * 6 + i)))), .ref 57]) (stt (nw t) τ) 0 0
        rw [e77]
        refine R_virt ck_117_113 57 [.int (nI (a 26 (x * 4 + a 38 (n * 6 + i))))] 0 0 (r := []) rfl rfl rfl (Nat.le_of_ble_eq_true rfl) (Nat.le_refl _) (Nat.le_refl _) ?_
        refine m_119 (d := d + k + 3) (w := t) (v := a 26 (x * 4 + a 38 (n * 6 + i))) (by omega) ?_
        show RU_117 (d + k + 4) (0, 0) Post 116 ([(6, .int (nI (a 39 (n * 6 + i)))), (5, .int (nI (x / 32 * 4 + a 38 (n * 6 + i)))), (4, .int (nI (a 38 (n * 6 + i)))), (3, .int (nI i)), (0, .ref 57), (1, .int (nI x)), (2, .int (nI n))]) ([]) (stt (nw (up2 (up2 t 104 (t 57 59) (a 26 (x * 4 + a 38 (n * 6 + i)))) 57 59 (t 57 59 + 1))) τ) 0 0
        refine R_goto ck_117_116 ?_
        refine R_seg sg_117_242 sk_117_242 (pc' := 245) (lv' := [(3, .int ((nI i) + 1)), (6, .int (nI (a 39 (n * 6 + i)))), (5, .int (nI (x / 32 * 4 + a 38 (n * 6 + i)))), (4, .int (nI (a 38 (n * 6 + i)))), (0, .ref 57), (1, .int (nI x)), (2, .int (nI n))]) (st' := []) (S' := stt (nw (up2 (up2 t 104 (t 57 59) (a 26 (x * 4 + a 38 (n * 6 + i)))) 57 59 (t 57 59 + 1))) τ) (kc' := 0) (ks' := 0) rfl ⟨(by decide), trivial⟩ ?_
        refine R_goto ck_117_245 ?_
        refine Runs.lv (lv := [(3, .int ((nI i) + 1)), (0, .ref 57), (1, .int (nI x)), (2, .int (nI n))]) ?_ _ (lvS_l (show ([3, 0, 1, 2] : List Nat).Nodup from by decide) (by intro q hq; simp only [List.mem_cons, List.not_mem_nil, or_false] at hq; rcases hq with rfl | rfl | rfl | rfl <;> rfl))
        rw [nI_1 i]
        have hfd : TLM t (tfd a (TT a k) n x i).1 (tfd a (TT a k) n x i).2.2 (up2 (up2 t 104 (t 57 59) (a 26 (x * 4 + a 38 (n * 6 + i)))) 57 59 (t 57 59 + 1)) := by unfold tfd; rw [if_pos c_98]; exact TLM.put t _
        exact ih (i + 1) _ (by omega) (ht.tr hfd) (by omega)
set_option maxRecDepth 20000 in
theorem m_117 {d k : Nat} (hN : ANS d k) : ANS d (k + 1) := by
  intro n x a v τ Post C ho hm hR hrm hp
  have hx := ho.2.1
  have st := C.st hR hx hm
  have b94 := st.2.2
  have hW := Wt_pos C.2.1 ho
  refine en_117 (Nat.le_of_ble_eq_true rfl) ?_
  show RU_117 (d + k + 4) (0, 0) Post 0 ([(0, .ref 57), (1, .int (nI x)), (2, .int (nI n))]) ([]) (stt (nw v) τ) 0 0
  refine R_seg sg_117_0 sk_117_0 (pc' := 5) (lv' := [(0, .ref 57), (1, .int (nI x)), (2, .int (nI n))]) (st' := [.int (nI x), .ref 94]) (S' := stt (nw v) τ) (kc' := 0) (ks' := 0) rfl ⟨trivial, rfl, trivial, trivial⟩ ?_
  refine R_iald ca_117_5 (j := x) rfl rfl (by omega) ?_
  refine R_seg sg_117_6 sk_117_6 (pc' := 7) (lv' := [(0, .ref 57), (1, .int (nI x)), (2, .int (nI n))]) (st' := [.int 4, .int (nI (v 94 x))]) (S' := stt (nw v) τ) (kc' := 0) (ks' := 0) rfl ⟨trivial, trivial⟩ ?_
  refine R_icmp ck_117_7 (fun (c_7 : ¬ (nI (v 94 x)) = 4) => ?_) (fun (c_7 : ¬ ¬ (nI (v 94 x)) = 4) => ?_)
  · have c_7 : ¬ (v 94 x) = 4 := fun zq => c_7 ((nI_eq (a := (v 94 x)) (b := 4) (by omega) (by omega)).mpr zq)
    have hk10 : a 51 x = 10 := Classical.not_not.mp (fun z => c_7 (st.1.mpr z))
    refine R_seg sg_117_21 sk_117_21 (pc' := 24) (lv' := [(0, .ref 57), (1, .int (nI x)), (2, .int (nI n))]) (st' := [.int (nI n), .int (nI x), .ref 57]) (S' := stt (nw v) τ) (kc' := 0) (ks' := 0) rfl ⟨trivial, trivial, trivial, trivial⟩ ?_
    refine R_virt ck_117_24 57 [.int (nI x), .int (nI n)] 0 0 (r := []) rfl rfl rfl (Nat.le_of_ble_eq_true rfl) (Nat.le_refl _) (Nat.le_refl _) ?_
    have hI := m_isNull (d + 1) (k + 1) n x a v τ
    rw [show d + 1 + (k + 1) + 2 = d + k + 4 by omega] at hI
    refine hI _ C ho hm hR ?_
    rcases hb : (TT a (k + 1) n x).2.1 with _ | _
    · show RU_117 (d + k + 4) (0, 0) Post 27 ([(0, .ref 57), (1, .int (nI x)), (2, .int (nI n))]) ([.int 1]) (stt (nw v) τ) 0 0
      refine R_if ck_117_27 (fun c => absurd c (show ¬ (1 : Int32) = 0 from by decide)) (fun _ => ?_)
      refine R_seg sg_117_30 sk_117_30 (pc' := 33) (lv' := [(0, .ref 57), (1, .int (nI x)), (2, .int (nI n))]) (st' := [.int 6, .ref 57]) (S' := stt (nw v) τ) (kc' := 0) (ks' := 0) rfl ⟨trivial, trivial, trivial⟩ ?_
      refine R_virt ck_117_33 57 [.int 6] 0 0 (r := []) rfl rfl rfl (Nat.le_of_ble_eq_true rfl) (Nat.le_refl _) (Nat.le_refl _) ?_
      refine m_118 (d := d + k + 2) (w := v) (v := 6) (by omega) ?_
      show RU_117 (d + k + 4) (0, 0) Post 36 ([(0, .ref 57), (1, .int (nI x)), (2, .int (nI n))]) ([]) (stt (nw (mNull v 6)) τ) 0 0
      refine R_ret ck_117_36 rfl ?_
      rw [TT_s, if_pos hk10, if_pos ((TT_there hk10).mp hb)] at hp
      exact hp _ (TLM.null v 6)
    · show RU_117 (d + k + 4) (0, 0) Post 27 ([(0, .ref 57), (1, .int (nI x)), (2, .int (nI n))]) ([.int 0]) (stt (nw v) τ) 0 0
      refine R_if ck_117_27 (fun _ => ?_) (fun c => absurd (show (0 : Int32) = 0 from by decide) c)
      refine R_seg sg_117_37 sk_117_37 (pc' := 39) (lv' := [(0, .ref 57), (1, .int (nI x)), (2, .int (nI n))]) (st' := [.int 1, .ref 57]) (S' := stt (nw v) τ) (kc' := 0) (ks' := 0) rfl ⟨trivial, trivial, trivial⟩ ?_
      refine R_virt ck_117_39 57 [.int 1] 0 0 (r := []) rfl rfl rfl (Nat.le_of_ble_eq_true rfl) (Nat.le_refl _) (Nat.le_refl _) ?_
      refine m_119 (d := d + k + 3) (w := v) (v := 1) (by omega) ?_
      show RU_117 (d + k + 4) (0, 0) Post 42 ([(0, .ref 57), (1, .int (nI x)), (2, .int (nI n))]) ([]) (stt (nw (up2 (up2 v 104 (v 57 59) 1) 57 59 (v 57 59 + 1))) τ) 0 0
      refine R_seg sg_117_42 sk_117_42 (pc' := 44) (lv' := [(3, .int 0), (0, .ref 57), (1, .int (nI x)), (2, .int (nI n))]) (st' := []) (S' := stt (nw (up2 (up2 v 104 (v 57 59) 1) 57 59 (v 57 59 + 1))) τ) (kc' := 0) (ks' := 0) rfl ⟨trivial, (by decide), trivial⟩ ?_
      refine Runs.lv (lv := [(3, .int 0), (0, .ref 57), (1, .int (nI x)), (2, .int (nI n))]) ?_ _ (lvS_l (show ([3, 0, 1, 2] : List Nat).Nodup from by decide) (by intro q hq; simp only [List.mem_cons, List.not_mem_nil, or_false] at hq; rcases hq with rfl | rfl | rfl | rfl <;> rfl))
      rw [← nI_0]
      exact ml_117 hN C ho hm hk10 (fun z => by rw [(TT_there hk10).mpr z] at hb; exact absurd hb (by decide)) hR hrm hp (a 37 n + 1) 0 _ (Nat.zero_le _) (TLM.put v 1) (by omega)
  · have c_7 : (v 94 x) = 4 := (nI_eq (a := (v 94 x)) (b := 4) (by omega) (by omega)).mp (Classical.not_not.mp c_7)
    refine R_seg sg_117_10 sk_117_10 (pc' := 16) (lv' := [(0, .ref 57), (1, .int (nI x)), (2, .int (nI n))]) (st' := [.int (nI x), .ref 95, .ref 57]) (S' := stt (nw v) τ) (kc' := 0) (ks' := 0) rfl ⟨trivial, trivial, rfl, trivial, trivial⟩ ?_
    refine R_iald ca_117_16 (j := x) rfl rfl (by omega) ?_
    show RU_117 (d + k + 4) (0, 0) Post 17 ([(0, .ref 57), (1, .int (nI x)), (2, .int (nI n))]) ([.int (nI (v 95 x)), .ref 57]) (stt (nw v) τ) 0 0
    rw [st.2.1 c_7]
    refine R_virt ck_117_17 57 [.int (nI (a 51 x))] 0 0 (r := []) rfl rfl rfl (Nat.le_of_ble_eq_true rfl) (Nat.le_refl _) (Nat.le_refl _) ?_
    refine m_118 (d := d + k + 2) (w := v) (v := a 51 x) (by omega) ?_
    show RU_117 (d + k + 4) (0, 0) Post 20 ([(0, .ref 57), (1, .int (nI x)), (2, .int (nI n))]) ([]) (stt (nw (mNull v (a 51 x))) τ) 0 0
    refine R_ret ck_117_20 rfl ?_
    rw [TT_null (st.1.mp c_7)] at hp
    exact hp _ (TLM.null v _)
theorem m_answers (d : Nat) : ∀ k, ANS d k
  | 0 => by
    intro n x a v τ Post C ho
    have h1 := (C.2.1.2 n ho.1).1
    have h2 := ho.2.2.2
    omega
  | k + 1 => m_117 (m_answers d k)
