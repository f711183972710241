/-! ===== ask and cost: the class ===== -/
theorem rd_le : ∀ (m p : Nat) (w : WW), (rd m p w).2 ≤ 1 + 4 * (p + m) + 2
  | 0, p, w => by
    show (if w 40 4 = 2 then 0 else 1 + 4 * p) ≤ _
    split <;> omega
  | m + 1, p, w => by
    rw [rd_s]
    split
    · have := rd_le m (p + 1) w; omega
    · split
      · rename_i c e
        have hc : c ≤ 2 := by
          unfold rtk at e
          repeat' split at e
          all_goals first | (cases e; omega) | (cases e)
        show 1 + 4 * p + c ≤ _
        omega
      · have := rd_le m (p + 1) (by assumption); omega
theorem c_52 {d : Nat} {w : WW} {τ : Nat → Nat → Int64} (hP : PO w) (hN : NP w) {Post : Option Value → Sto → Prop} (hp : Post (some (.int (nI (PS w (w 32 7))))) (stt (nw w) τ)) : Ex (d + 2) 52 [.ref 32, .ref 16] (stt (nw w) τ) 0 0 Post := by
  refine x_52 (σ := nw w) (nd := w 32 7) rfl hN.1 (fun i hi => ⟨w 33 i, rfl, (hN.2 i hi).1⟩) ?_
  have b := PS_le hP hN (w 32 7) (Nat.le_refl _)
  have hn := hN.1
  rw [cSum_n hP hN _ (Nat.le_refl _), show (2000000000 : Int32).toInt64 = lN 2000000000 from rfl, if_neg (fun q => by have := (lN_lt (by omega) (by omega)).mp q; omega), lN_i]
  exact hp
theorem c_54 {d : Nat} {w : WW} {τ : Nat → Nat → Int64} {has k : Nat} (hP : PO w) (hN : NP w) (hh : has ≤ 500) (hk : k < w 32 7) (hgt : has < PS w (k + 1)) (hle : ∀ j, j < k → PS w (j + 1) ≤ has) {Post : Option Value → Sto → Prop} (hp : Post (some (.int (nI (w 34 k)))) (stt (nw w) τ)) : Ex (d + 2) 54 [.ref 32, .int (nI has), .ref 16] (stt (nw w) τ) 0 0 Post := by
  have hn := hN.1
  refine x_54 (σ := nw w) (nd := w 32 7) (k := k) rfl hN.1 (fun i hi => ⟨w 33 i, rfl, (hN.2 i hi).1⟩) hk (fun q => ?_) (fun j hj => ?_) hp
  · have b := PS_le hP hN (k + 1) hk
    rw [cSum_n hP hN (k + 1) hk, nI_l (by omega), lg_cmp_le, lN_le (by omega) (by omega)] at q
    omega
  · have b := PS_le hP hN (j + 1) (by omega)
    rw [cSum_n hP hN _ (by omega), nI_l (by omega), lg_cmp_le, lN_le (by omega) (by omega)]
    exact hle j hj
theorem Wt_fr {a w : WW} (e20 : a 20 = w 20) (e22 : a 22 = w 22) (e33 : a 33 = w 33) (e37 : a 37 = w 37) (e38 : a 38 = w 38) (e39 : a 39 = w 39) : ∀ k n, Wt a k n = Wt w k n
  | 0, _ => rfl
  | k + 1, n => by
    have ih : Wt a k = Wt w k := funext (Wt_fr e20 e22 e33 e37 e38 e39 k)
    have wf : ∀ i, wtf a (Wt a k) n i = wtf w (Wt w k) n i := by
      intro i
      induction i with
      | zero => rfl
      | succ i ih2 =>
        show wtf a (Wt a k) n i + wtc a (Wt a k) n i = wtf w (Wt w k) n i + wtc w (Wt w k) n i
        rw [ih2]
        unfold wtc
        rw [e20, e22, e33, e38, e39, ih]
    rw [Wt_s, Wt_s, wf, e37]
/-- what an ask is, paid: the class's world then -/
def paid (q : WW) (as : Nat) : WW := up2 q 5 as (q 5 as - PS q (q 32 7))
def BJ (w : WW) : Prop := BI w ∧ PO w ∧ TPc w
theorem BI.frd {w r : WW} (B : BI w) (f : FRD w r) : BI r := by
  obtain ⟨h1, h2, h3, h4, h5, h6, h7⟩ := B
  have e := f.1
  refine ⟨?_, h2.fr2 (e 1 (by decide)) (e 25 (by decide)), h3.fr (fun k hk => e k (by omega)), h4.fr (fun k hk => e k (by omega)), fun g hg => by rw [e (11 + g) (by omega)]; exact h5 g hg, ?_, ?_⟩
  · unfold SO; rw [e 17 (by decide), e 19 (by decide), e 20 (by decide), e 21 (by decide), e 22 (by decide), e 27 (by decide), e 28 (by decide)]; exact h1
  · unfold AO; rw [e 2 (by decide), e 3 (by decide), e 4 (by decide), e 5 (by decide)]; exact h6
  · unfold ZO; rw [e 24 (by decide), e 23 (by decide)]; exact h7
theorem BI.tape {r : WW} (B : BI r) (n : Nat) : BI (up2 r 30 1 n) := by
  obtain ⟨h1, h2, h3, h4, h5, h6, h7⟩ := B
  exact ⟨h1, h2, h3.fr (fun k hk => up2_k _ _ _ _ (by omega)), h4, fun g hg => by rw [up2_n _ _ _ _ (by omega)]; exact h5 g hg, h6, h7⟩
theorem BI.pay {q : WW} (B : BI q) {as n : Nat} (hn : n ≤ 500) : BI (up2 q 5 as n) := by
  obtain ⟨h1, h2, h3, h4, h5, h6, h7⟩ := B
  refine ⟨h1, h2, h3.fr (fun k hk => up2_k _ _ _ _ (by omega)), h4, fun g hg => by rw [up2_n _ _ _ _ (by omega)]; exact h5 g hg, fun i hi => ?_, h7⟩
  have q := h6 i hi
  refine ⟨q.1, q.2.1, q.2.2.1, ?_⟩
  show va_up _ as n i ≤ 500
  unfold va_up
  split
  · exact hn
  · exact q.2.2.2
/-- all that an ask needs of what was read -/
def RDY (w r : WW) (ty : Nat) : Prop := FRD w r ∧ RN0 r N1 ∧ TO r ∧ 0 < r 32 7 ∧ r 33 0 = ty ∧ r 36 0 = 1
theorem aRead_ok {w : WW} {ty : Nat} (hS : SO w) (hty : ty < 6) : FRD w (aRead w ty).1 ∧ ((aRead w ty).2 = 0 → RDY w (aRead w ty).1 ty) := by
  have q := rd_ok (w 30 1) 0 (rd0 w ty) (rd0_in hS hty)
  have f := (rd0_fr w ty).tr q.1
  refine ⟨f, fun e => ?_⟩
  have z := q.2 e
  have t := z.1.to z.2
  exact ⟨f, t.2.1, t.1, t.2.2.1, t.2.2.2.1, t.2.2.2.2.1⟩
theorem PO.frd {w r : WW} (h : PO w) (f : FRD w r) : PO r := by
  unfold PO; rw [f.1 18 (by decide)]; exact h
/-- told things fit -/
theorem fits_ask {q : WW} (hP : PO q) (hN : RN0 q N1) (hn : 0 < q 32 7) {has : Nat} (hh : has ≤ 500) (hp : PS q (q 32 7) ≤ has) : 7 * Wt q 5 0 ≤ 3500 := by
  have h1 := Wt_price hN hn
  have h2 := (PS_le hP hN.np (q 32 7) (Nat.le_refl _)).2
  omega
/-- what the telling needs, at the run's end -/
theorem ask_end {q a : WW} {id : Nat} (R : RES q a id) (B : BI q) (hT : TO q) (hn : 0 < q 32 7) (h33 : id / 32 = q 33 0) (h36 : q 36 0 = 1) (hid : id < 192) : SO a ∧ TO a ∧ ZO a ∧ (∀ x, x < 192 → a 51 x ≤ 12) ∧ OKn a 5 0 id ∧ Wt a 5 0 = Wt q 5 0 := by
  obtain ⟨r1, r2, r3, r4, r5, r6, r7⟩ := R
  have e : ∀ k, k < 42 → k ≠ 1 → k ≠ 5 → k ≠ 25 → (k < 11 ∨ 16 ≤ k) → a k = q k := r6
  have e' : ∀ k, 16 ≤ k → k < 42 → k ≠ 25 → a k = q k := fun k k1 k2 k3 => e k k2 (by omega) (by omega) k3 (by omega)
  refine ⟨?_, ?_, ?_, fun x hx => ?_, ?_, Wt_fr (e' 20 (by decide) (by decide) (by decide)) (e' 22 (by decide) (by decide) (by decide)) (e' 33 (by decide) (by decide) (by decide)) (e' 37 (by decide) (by decide) (by decide)) (e' 38 (by decide) (by decide) (by decide)) (e' 39 (by decide) (by decide) (by decide)) 5 0⟩
  · unfold SO; rw [e' 17 (by decide) (by decide) (by decide), e' 19 (by decide) (by decide) (by decide), e' 20 (by decide) (by decide) (by decide), e' 21 (by decide) (by decide) (by decide), e' 22 (by decide) (by decide) (by decide), e' 27 (by decide) (by decide) (by decide), e' 28 (by decide) (by decide) (by decide)]; exact B.1
  · unfold TO; rw [e' 20 (by decide) (by decide) (by decide), e' 21 (by decide) (by decide) (by decide), e' 32 (by decide) (by decide) (by decide), e' 33 (by decide) (by decide) (by decide), e' 36 (by decide) (by decide) (by decide), e' 37 (by decide) (by decide) (by decide), e' 38 (by decide) (by decide) (by decide), e' 39 (by decide) (by decide) (by decide)]; exact hT
  · unfold ZO; rw [e' 24 (by decide) (by decide) (by decide), e' 23 (by decide) (by decide) (by decide)]; exact B.2.2.2.2.2.2
  · have := r5.1 x hx; omega
  · unfold OKn; rw [e' 32 (by decide) (by decide) (by decide), e' 33 (by decide) (by decide) (by decide), e' 36 (by decide) (by decide) (by decide)]; exact ⟨hn, hid, h33, by rw [h36]⟩
set_option maxRecDepth 20000 in
theorem c_71 {d : Nat} {w : WW} {τ : Nat → Nat → Int64} {x1 x2 x3 x4 : Int32} {Post : Option Value → Sto → Prop} (B : BI w) (hP : PO w) (hT : TPc w) (hf : ¬ (rg x1 0 3 ∧ rg x2 0 5 ∧ rg x3 0 31 ∧ rg x4 1 200 ∧ ∀ t, t ≤ 200 → x4 = nI t → w 1 4 + t ≤ 100000) → Post (some (.int (-1))) (stt (nw w) τ)) (hfl : ∀ (a ty ke tk : Nat) (r : WW) (f : Nat), a < 4 → ty < 6 → ke < 32 → 1 ≤ tk → tk ≤ 200 → w 1 4 + tk ≤ 100000 → x1 = nI a → x2 = nI ty → x3 = nI ke → x4 = nI tk → aRead w ty = (r, f) → ¬ f = 0 → Post (some (.int ((-2) - nI f))) (stt (nw (up2 r 30 1 0)) τ)) (hdr : ∀ (a ty ke tk : Nat) (r : WW) (k : Nat), a < 4 → ty < 6 → ke < 32 → 1 ≤ tk → tk ≤ 200 → w 1 4 + tk ≤ 100000 → x1 = nI a → x2 = nI ty → x3 = nI ke → x4 = nI tk → aRead w ty = (r, 0) → k < r 32 7 → r 5 a < PS (up2 r 30 1 0) (k + 1) → (∀ j, j < k → PS (up2 r 30 1 0) (j + 1) ≤ r 5 a) → Post (some (.int 2)) (stt (nw (up2 (up2 r 30 1 0) 0 9 (r 34 k))) τ)) (hok : ∀ (a ty ke tk : Nat) (r : WW), a < 4 → ty < 6 → ke < 32 → 1 ≤ tk → tk ≤ 200 → w 1 4 + tk ≤ 100000 → x1 = nI a → x2 = nI ty → x3 = nI ke → x4 = nI tk → aRead w ty = (r, 0) → PS (up2 r 30 1 0) (r 32 7) ≤ r 5 a → ∀ t, TOLD (aRun (ty * 32 + ke) tk (r 2 a) (up2 (up2 r 30 1 0) 5 a (r 5 a - PS (up2 r 30 1 0) (r 32 7)))) (TT (aRun (ty * 32 + ke) tk (r 2 a) (up2 (up2 r 30 1 0) 5 a (r 5 a - PS (up2 r 30 1 0) (r 32 7)))) 5 0 (ty * 32 + ke)).1 (TT (aRun (ty * 32 + ke) tk (r 2 a) (up2 (up2 r 30 1 0) 5 a (r 5 a - PS (up2 r 30 1 0) (r 32 7)))) 5 0 (ty * 32 + ke)).2.2 t → Post (some (.int (nI (bn (TT (aRun (ty * 32 + ke) tk (r 2 a) (up2 (up2 r 30 1 0) 5 a (r 5 a - PS (up2 r 30 1 0) (r 32 7)))) 5 0 (ty * 32 + ke)).2.2)))) (stt (nw t) τ)) : Ex (d + 17) 71 [.ref 0, .int x1, .int x2, .int x3, .int x4] (stt (nw w) τ) 0 0 Post := by
  refine en_71 (Nat.le_of_ble_eq_true rfl) ?_
  show RU_71 (d + 16) (0, 0) Post 0 ([(0, .ref 0), (1, .int x1), (2, .int x2), (3, .int x3), (4, .int x4)]) ([]) (stt (nw w) τ) 0 0
  refine R_seg sg_71_0 sk_71_0 (pc' := 3) (lv' := [(0, .ref 0), (1, .int x1), (2, .int x2), (3, .int x3), (4, .int x4)]) (st' := [.int 3, .int 0, .int x1]) (S' := stt (nw w) τ) (kc' := 0) (ks' := 0) rfl ⟨trivial, trivial, trivial, trivial⟩ ?_
  refine R_stat ck_71_3 (by decide) [.int x1, .int 0, .int 3] 0 0 (r := []) rfl rfl (Nat.le_of_ble_eq_true rfl) (Nat.le_refl _) (Nat.le_refl _) ?_
  refine xn_57 (d := d + 15) 0 3 (by omega) (by omega) (fun a l_a u_a e_a => ?_) (fun n_a => ?_)
  · subst e_a
    show RU_71 (d + 16) (0, 0) Post 6 ([(0, .ref 0), (1, .int (nI a)), (2, .int x2), (3, .int x3), (4, .int x4)]) ([.int 1]) (stt (nw w) τ) 0 0
    refine R_if ck_71_6 (fun c => absurd c (show ¬ (1 : Int32) = 0 from by decide)) (fun _ => ?_)
    refine R_seg sg_71_9 sk_71_9 (pc' := 11) (lv' := [(0, .ref 0), (1, .int (nI a)), (2, .int x2), (3, .int x3), (4, .int x4)]) (st' := [.int x3, .int x2]) (S' := stt (nw w) τ) (kc' := 0) (ks' := 0) rfl ⟨trivial, trivial, trivial⟩ ?_
    refine R_stat ck_71_11 (by decide) [.int x2, .int x3] 0 0 (r := []) rfl rfl (Nat.le_of_ble_eq_true rfl) (Nat.le_refl _) (Nat.le_refl _) ?_
    refine x_62 (d := d + 14) (fun ty ke b_ty b_ke e_ty e_ke => ?_) (fun n_tk => ?_)
    · subst e_ty; subst e_ke
      show RU_71 (d + 16) (0, 0) Post 14 ([(0, .ref 0), (1, .int (nI a)), (2, .int (nI ty)), (3, .int (nI ke)), (4, .int x4)]) ([.int 1]) (stt (nw w) τ) 0 0
      refine R_if ck_71_14 (fun c => absurd c (show ¬ (1 : Int32) = 0 from by decide)) (fun _ => ?_)
      refine R_seg sg_71_17 sk_71_17 (pc' := 23) (lv' := [(0, .ref 0), (1, .int (nI a)), (2, .int (nI ty)), (3, .int (nI ke)), (4, .int x4)]) (st' := [.int 200, .int 1, .int x4]) (S' := stt (nw w) τ) (kc' := 0) (ks' := 0) rfl ⟨trivial, trivial, trivial, trivial⟩ ?_
      refine R_stat ck_71_23 (by decide) [.int x4, .int 1, .int 200] 0 0 (r := []) rfl rfl (Nat.le_of_ble_eq_true rfl) (Nat.le_refl _) (Nat.le_refl _) ?_
      refine xn_57 (d := d + 15) 1 200 (by omega) (by omega) (fun tk l_tk u_tk e_tk => ?_) (fun n_tk => ?_)
      · subst e_tk
        show RU_71 (d + 16) (0, 0) Post 26 ([(0, .ref 0), (1, .int (nI a)), (2, .int (nI ty)), (3, .int (nI ke)), (4, .int (nI tk))]) ([.int 1]) (stt (nw w) τ) 0 0
        refine R_if ck_71_26 (fun c => absurd c (show ¬ (1 : Int32) = 0 from by decide)) (fun _ => ?_)
        refine R_seg [(.aload_n 0, 1, 0, 0, 0, 0), (.getfield 12, 3, 10, 0, 2, 0), (.getfield 189, 3, 1, 4, 0, 0), (.iload 4, 2, 0, 0, 0, 0), (.iadd, 1, 0, 0, 0, 0)] (by decide +kernel) (pc' := 39) (lv' := [(0, .ref 0), (1, .int (nI a)), (2, .int (nI ty)), (3, .int (nI ke)), (4, .int (nI tk))]) (st' := [.int ((nI (w 1 4)) + (nI tk))]) (S' := stt (nw w) τ) (kc' := 0) (ks' := 0) rfl ⟨trivial, rfl, rfl, trivial, trivial, trivial⟩ ?_
        have hw1 : w 1 4 ≤ 100000 := B.2.1.1
        rw [nI_add (w 1 4)]
        skip
        refine R_seg [(.ldc 114, 2, 0, 0, 0, 100000)] (by decide +kernel) (pc' := 41) (lv' := [(0, .ref 0), (1, .int (nI a)), (2, .int (nI ty)), (3, .int (nI ke)), (4, .int (nI tk))]) (st' := [.int 100000, .int (nI (w 1 4 + tk))]) (S' := stt (nw w) τ) (kc' := 0) (ks' := 0) rfl ⟨trivial, trivial⟩ ?_
        refine R_icmp ck_71_41 (fun (c_41 : (nI (w 1 4 + tk)) ≤ 100000) => ?_) (fun (c_41 : ¬ (nI (w 1 4 + tk)) ≤ 100000) => ?_)
        · have c_41 : (w 1 4 + tk) ≤ 100000 := (nI_leI (a := (w 1 4 + tk)) (b := 100000) (by omega) (by omega)).mp c_41
          refine R_seg sg_71_46 sk_71_46 (pc' := 55) (lv' := [(0, .ref 0), (1, .int (nI a)), (2, .int (nI ty)), (3, .int (nI ke)), (4, .int (nI tk))]) (st' := [.int (nI ty), .ref 30, .ref 40]) (S' := stt (nw w) τ) (kc' := 0) (ks' := 0) rfl ⟨trivial, rfl, trivial, rfl, trivial, trivial⟩ ?_
          refine R_virt ck_71_55 40 [.ref 30, .int (nI ty)] 0 0 (r := []) rfl rfl rfl (Nat.le_of_ble_eq_true rfl) (Nat.le_refl _) (Nat.le_refl _) ?_
          obtain ⟨r, f, hr⟩ : ∃ r f, aRead w ty = (r, f) := ⟨_, _, rfl⟩
          have hro := aRead_ok B.1 b_ty
          have hfb := rd_le (w 30 1) 0 (rd0 w ty)
          have hfb : (aRead w ty).2 ≤ 1 + 4 * (0 + w 30 1) + 2 := hfb
          rw [hr] at hro hfb
          have hfb : f ≤ 1 + 4 * (0 + w 30 1) + 2 := hfb
          have hT1 := hT.1
          refine c_17 (d := d + 13) B.1 hT b_ty ?_
          rw [hr]
          show RU_71 (d + 16) (0, 0) Post 58 ([(0, .ref 0), (1, .int (nI a)), (2, .int (nI ty)), (3, .int (nI ke)), (4, .int (nI tk))]) ([.int (nI f)]) (stt (nw r) τ) 0 0
          refine R_seg [(.istore 5, 2, 0, 0, 0, 0), (.aload_n 0, 1, 0, 0, 0, 0), (.getfield 33, 3, 10, 3, 2, 0), (.iconst 0, 1, 0, 0, 0, 0), (.putfield 196, 3, 7, 1, 0, 0)] (by decide +kernel) (pc' := 68) (lv' := [(5, .int (nI f)), (0, .ref 0), (1, .int (nI a)), (2, .int (nI ty)), (3, .int (nI ke)), (4, .int (nI tk))]) (st' := []) (S' := stt (up2 (nw r) 30 1 0) τ) (kc' := 0) (ks' := 0) rfl ⟨(by decide), trivial, rfl, trivial, ⟨rfl, ⟨rfl, rfl⟩⟩, trivial⟩ ?_
          show RU_71 (d + 16) (0, 0) Post 68 ([(5, .int (nI f)), (0, .ref 0), (1, .int (nI a)), (2, .int (nI ty)), (3, .int (nI ke)), (4, .int (nI tk))]) ([]) (stt (up2 (nw r) 30 1 0) τ) 0 0
          rw [nw_up (w := r) (k := 30) (i := 1) (v := 0) (n := 0) rfl]
          skip
          refine R_seg [(.iload 5, 2, 0, 0, 0, 0)] (by decide +kernel) (pc' := 70) (lv' := [(5, .int (nI f)), (0, .ref 0), (1, .int (nI a)), (2, .int (nI ty)), (3, .int (nI ke)), (4, .int (nI tk))]) (st' := [.int (nI f)]) (S' := stt (nw (up2 r 30 1 0)) τ) (kc' := 0) (ks' := 0) rfl ⟨trivial, trivial⟩ ?_
          refine R_if ck_71_70 (fun (c_70 : (nI f) = 0) => ?_) (fun (c_70 : ¬ (nI f) = 0) => ?_)
          · have c_70 : f = 0 := (nI_eq (a := f) (b := 0) (by omega) (by omega)).mp c_70
            have hf0 : f = 0 := c_70
            have hr0 : aRead w ty = (r, 0) := by rw [hr, hf0]
            have hR0 : RDY w r ty := hro.2 hf0
            have hPr : PO r := hP.frd hR0.1
            have hPq : PO (up2 r 30 1 0) := hPr
            have hNq : RN0 (up2 r 30 1 0) N1 := hR0.2.1
            have hq500 := PS_le hPq hNq.np (r 32 7) (Nat.le_refl _)
            have hnn := hNq.1
            have hnn : r 32 7 ≤ 20 := hnn
            have e5 : r 5 = w 5 := hR0.1.1 5 (by decide)
            have e2 : r 2 = w 2 := hR0.1.1 2 (by decide)
            have e1 : r 1 = w 1 := hR0.1.1 1 (by decide)
            have h500 : r 5 a ≤ 500 := by rw [e5]; exact (B.2.2.2.2.2.1 a (by omega)).2.2.2
            refine R_seg sg_71_79 sk_71_79 (pc' := 87) (lv' := [(5, .int (nI f)), (0, .ref 0), (1, .int (nI a)), (2, .int (nI ty)), (3, .int (nI ke)), (4, .int (nI tk))]) (st' := [.ref 16, .ref 32]) (S' := stt (nw (up2 r 30 1 0)) τ) (kc' := 0) (ks' := 0) rfl ⟨trivial, rfl, trivial, rfl, trivial⟩ ?_
            refine R_virt ck_71_87 32 [.ref 16] 0 0 (r := []) rfl rfl rfl (Nat.le_of_ble_eq_true rfl) (Nat.le_refl _) (Nat.le_refl _) ?_
            refine c_52 (d := d + 14) (w := up2 r 30 1 0) hPq hNq.np ?_
            show RU_71 (d + 16) (0, 0) Post 90 ([(5, .int (nI f)), (0, .ref 0), (1, .int (nI a)), (2, .int (nI ty)), (3, .int (nI ke)), (4, .int (nI tk))]) ([.int (nI (PS (up2 r 30 1 0) (r 32 7)))]) (stt (nw (up2 r 30 1 0)) τ) 0 0
            refine R_seg sg_71_90 sk_71_90 (pc' := 102) (lv' := [(6, .int (nI (PS (up2 r 30 1 0) (r 32 7)))), (5, .int (nI f)), (0, .ref 0), (1, .int (nI a)), (2, .int (nI ty)), (3, .int (nI ke)), (4, .int (nI tk))]) (st' := [.int (nI a), .ref 5, .int (nI (PS (up2 r 30 1 0) (r 32 7)))]) (S' := stt (nw (up2 r 30 1 0)) τ) (kc' := 0) (ks' := 0) rfl ⟨(by decide), trivial, trivial, rfl, rfl, trivial, trivial⟩ ?_
            refine R_iald ca_71_102 (j := a) rfl rfl (by omega) ?_
            refine R_icmp ck_71_103 (fun (c_103 : (nI (PS (up2 r 30 1 0) (r 32 7))) ≤ (nI (r 5 a))) => ?_) (fun (c_103 : ¬ (nI (PS (up2 r 30 1 0) (r 32 7))) ≤ (nI (r 5 a))) => ?_)
            · have c_103 : (PS (up2 r 30 1 0) (r 32 7)) ≤ (r 5 a) := (nI_leI (a := (PS (up2 r 30 1 0) (r 32 7))) (b := (r 5 a)) (by omega) (by omega)).mp c_103
              refine R_seg sg_71_132 sk_71_132 (pc' := 141) (lv' := [(6, .int (nI (PS (up2 r 30 1 0) (r 32 7)))), (5, .int (nI f)), (0, .ref 0), (1, .int (nI a)), (2, .int (nI ty)), (3, .int (nI ke)), (4, .int (nI tk))]) (st' := [.int (nI a), .ref 5, .int (nI a), .ref 5]) (S' := stt (nw (up2 r 30 1 0)) τ) (kc' := 0) (ks' := 0) rfl ⟨trivial, rfl, rfl, trivial, ⟨rfl, rfl⟩, trivial⟩ ?_
              refine R_iald ca_71_141 (j := a) rfl rfl (by omega) ?_
              refine R_seg sg_71_142 sk_71_142 (pc' := 145) (lv' := [(6, .int (nI (PS (up2 r 30 1 0) (r 32 7)))), (5, .int (nI f)), (0, .ref 0), (1, .int (nI a)), (2, .int (nI ty)), (3, .int (nI ke)), (4, .int (nI tk))]) (st' := [.int ((nI (r 5 a)) - (nI (PS (up2 r 30 1 0) (r 32 7)))), .int (nI a), .ref 5]) (S' := stt (nw (up2 r 30 1 0)) τ) (kc' := 0) (ks' := 0) rfl ⟨trivial, trivial, trivial⟩ ?_
              refine R_iast ca_71_145 (j := a) rfl rfl (by omega) ?_
              show RU_71 (d + 16) (0, 0) Post 146 ([(6, .int (nI (PS (up2 r 30 1 0) (r 32 7)))), (5, .int (nI f)), (0, .ref 0), (1, .int (nI a)), (2, .int (nI ty)), (3, .int (nI ke)), (4, .int (nI tk))]) ([]) (stt (up2 (nw (up2 r 30 1 0)) 5 a ((nI (r 5 a)) - (nI (PS (up2 r 30 1 0) (r 32 7))))) τ) 0 0
              rw [nw_up (w := up2 r 30 1 0) (k := 5) (i := a) (v := (nI (r 5 a)) - (nI (PS (up2 r 30 1 0) (r 32 7)))) (n := r 5 a - PS (up2 r 30 1 0) (r 32 7)) (pk_sub c_103)]
              skip
              refine R_seg [(.iload_n 2, 1, 0, 0, 0, 0), (.bipush 32, 2, 0, 0, 0, 32), (.imul, 1, 0, 0, 0, 0), (.iload_n 3, 1, 0, 0, 0, 0), (.iadd, 1, 0, 0, 0, 0), (.istore 7, 2, 0, 0, 0, 0)] (by decide +kernel) (pc' := 154) (lv' := [(7, .int (((nI ty) * 32) + (nI ke))), (6, .int (nI (PS (up2 r 30 1 0) (r 32 7)))), (5, .int (nI f)), (0, .ref 0), (1, .int (nI a)), (2, .int (nI ty)), (3, .int (nI ke)), (4, .int (nI tk))]) (st' := []) (S' := stt (nw (up2 (up2 r 30 1 0) 5 a (r 5 a - PS (up2 r 30 1 0) (r 32 7)))) τ) (kc' := 0) (ks' := 0) rfl ⟨trivial, trivial, trivial, trivial, trivial, (by decide), trivial⟩ ?_
              rw [show nI ty * 32 + nI ke = nI (ty * 32 + ke) from by simp only [nl_0, nl_1, nl_2, nl_3, nl_4, nl_5, nl_6, nl_8, nl_20, nl_31, nl_32, pk_mul, nI_add]]
              skip
              refine R_seg [(.aload_n 0, 1, 0, 0, 0, 0), (.getfield 65, 3, 10, 7, 2, 0), (.iload 7, 2, 0, 0, 0, 0), (.iload 4, 2, 0, 0, 0, 0), (.aload_n 0, 1, 0, 0, 0, 0), (.getfield 12, 3, 10, 0, 2, 0), (.getfield 171, 3, 1, 0, 2, 0), (.iload_n 1, 1, 0, 0, 0, 0)] (by decide +kernel) (pc' := 170) (lv' := [(7, .int (nI (ty * 32 + ke))), (6, .int (nI (PS (up2 r 30 1 0) (r 32 7)))), (5, .int (nI f)), (0, .ref 0), (1, .int (nI a)), (2, .int (nI ty)), (3, .int (nI ke)), (4, .int (nI tk))]) (st' := [.int (nI a), .ref 2, .int (nI tk), .int (nI (ty * 32 + ke)), .ref 50]) (S' := stt (nw (up2 (up2 r 30 1 0) 5 a (r 5 a - PS (up2 r 30 1 0) (r 32 7)))) τ) (kc' := 0) (ks' := 0) rfl ⟨trivial, rfl, trivial, trivial, trivial, rfl, rfl, trivial, trivial⟩ ?_
              refine R_iald ca_71_170 (j := a) rfl rfl (by omega) ?_
              refine R_virt ck_71_171 50 [.int (nI (ty * 32 + ke)), .int (nI tk), .int (nI (r 2 a))] 0 0 (r := []) rfl rfl rfl (Nat.le_of_ble_eq_true rfl) (Nat.le_refl _) (Nat.le_refl _) ?_
              have hB2 : BI (up2 (up2 r 30 1 0) 5 a (r 5 a - PS (up2 r 30 1 0) (r 32 7))) := (BI.tape (B.frd hR0.1) 0).pay (by omega)
              have hres := aRun_res (id := ty * 32 + ke) (t := tk) (r := r 2 a) hB2 hR0.2.2.1 (by omega) ⟨hR0.2.2.2.1, by rw [show (up2 (up2 r 30 1 0) 5 a (r 5 a - PS (up2 r 30 1 0) (r 32 7))) 33 0 = r 33 0 from rfl, hR0.2.2.2.2.1]; omega, hR0.2.2.2.2.2⟩ (show r 1 4 + tk ≤ 100000 by rw [e1]; omega)
              refine c_23 (d := d + 1) (w := up2 (up2 r 30 1 0) 5 a (r 5 a - PS (up2 r 30 1 0) (r 32 7))) (id := ty * 32 + ke) (t := tk) (r := r 2 a) (by omega) (by omega) (by rw [e2]; exact (B.2.2.2.2.2.1 a (by omega)).1) hB2 hR0.2.2.1 ⟨hR0.2.2.2.1, by rw [show (up2 (up2 r 30 1 0) 5 a (r 5 a - PS (up2 r 30 1 0) (r 32 7))) 33 0 = r 33 0 from rfl, hR0.2.2.2.2.1]; omega, hR0.2.2.2.2.2⟩ (show r 1 4 + tk ≤ 100000 by rw [e1]; omega) ?_
              show RU_71 (d + 16) (0, 0) Post 174 ([(7, .int (nI (ty * 32 + ke))), (6, .int (nI (PS (up2 r 30 1 0) (r 32 7)))), (5, .int (nI f)), (0, .ref 0), (1, .int (nI a)), (2, .int (nI ty)), (3, .int (nI ke)), (4, .int (nI tk))]) ([]) (stt (nw (aRun (ty * 32 + ke) tk (r 2 a) (up2 (up2 r 30 1 0) 5 a (r 5 a - PS (up2 r 30 1 0) (r 32 7))))) τ) 0 0
              refine R_seg sg_71_174 sk_71_174 (pc' := 180) (lv' := [(7, .int (nI (ty * 32 + ke))), (6, .int (nI (PS (up2 r 30 1 0) (r 32 7)))), (5, .int (nI f)), (0, .ref 0), (1, .int (nI a)), (2, .int (nI ty)), (3, .int (nI ke)), (4, .int (nI tk))]) (st' := [.int (nI (ty * 32 + ke)), .ref 55]) (S' := stt (nw (aRun (ty * 32 + ke) tk (r 2 a) (up2 (up2 r 30 1 0) 5 a (r 5 a - PS (up2 r 30 1 0) (r 32 7))))) τ) (kc' := 0) (ks' := 0) rfl ⟨trivial, rfl, trivial, trivial⟩ ?_
              refine R_virt ck_71_180 55 [.int (nI (ty * 32 + ke))] 0 0 (r := []) rfl rfl rfl (Nat.le_of_ble_eq_true rfl) (Nat.le_refl _) (Nat.le_refl _) ?_
              have hA := ask_end hres hB2 hR0.2.2.1 (show 0 < r 32 7 from hR0.2.2.2.1) (show (ty * 32 + ke) / 32 = r 33 0 by rw [hR0.2.2.2.2.1]; omega) hR0.2.2.2.2.2 (by omega)
              have hW : 7 * Wt (aRun (ty * 32 + ke) tk (r 2 a) (up2 (up2 r 30 1 0) 5 a (r 5 a - PS (up2 r 30 1 0) (r 32 7)))) 5 0 ≤ 3500 := by rw [hA.2.2.2.2.2, show Wt (up2 (up2 r 30 1 0) 5 a (r 5 a - PS (up2 r 30 1 0) (r 32 7))) 5 0 = Wt (up2 r 30 1 0) 5 0 from Wt_fr (a := up2 (up2 r 30 1 0) 5 a (r 5 a - PS (up2 r 30 1 0) (r 32 7))) (w := up2 r 30 1 0) rfl rfl rfl rfl rfl rfl 5 0]; exact fits_ask (q := up2 r 30 1 0) hPq hNq hR0.2.2.2.1 (show r 5 a ≤ 500 by omega) (show PS (up2 r 30 1 0) (r 32 7) ≤ r 5 a by omega)
              refine c_46 (d := d + 2) hA.1 hA.2.1 hA.2.2.1 hA.2.2.2.1 hA.2.2.2.2.1 hW (fun t ht => ?_)
              have hfin := hok a ty ke tk r (by omega) b_ty b_ke (by omega) (by omega) (by omega) rfl rfl rfl rfl hr0 c_103 t ht
              rcases hb : (TT (aRun (ty * 32 + ke) tk (r 2 a) (up2 (up2 r 30 1 0) 5 a (r 5 a - PS (up2 r 30 1 0) (r 32 7)))) 5 0 (ty * 32 + ke)).2.2 with _ | _
              · rw [hb] at hfin
                show RU_71 (d + 16) (0, 0) Post 183 ([(7, .int (nI (ty * 32 + ke))), (6, .int (nI (PS (up2 r 30 1 0) (r 32 7)))), (5, .int (nI f)), (0, .ref 0), (1, .int (nI a)), (2, .int (nI ty)), (3, .int (nI ke)), (4, .int (nI tk))]) ([.int 0]) (stt (nw t) τ) 0 0
                refine R_if ck_71_183 (fun _ => ?_) (fun c => absurd (show (0 : Int32) = 0 from by decide) c)
                refine R_seg sg_71_190 sk_71_190 (pc' := 191) (lv' := [(7, .int (nI (ty * 32 + ke))), (6, .int (nI (PS (up2 r 30 1 0) (r 32 7)))), (5, .int (nI f)), (0, .ref 0), (1, .int (nI a)), (2, .int (nI ty)), (3, .int (nI ke)), (4, .int (nI tk))]) (st' := [.int 0]) (S' := stt (nw t) τ) (kc' := 0) (ks' := 0) rfl ⟨trivial, trivial⟩ ?_
                refine R_iret ck_71_191 rfl rfl ?_
                exact hfin
              · rw [hb] at hfin
                show RU_71 (d + 16) (0, 0) Post 183 ([(7, .int (nI (ty * 32 + ke))), (6, .int (nI (PS (up2 r 30 1 0) (r 32 7)))), (5, .int (nI f)), (0, .ref 0), (1, .int (nI a)), (2, .int (nI ty)), (3, .int (nI ke)), (4, .int (nI tk))]) ([.int 1]) (stt (nw t) τ) 0 0
                refine R_if ck_71_183 (fun c => absurd c (show ¬ (1 : Int32) = 0 from by decide)) (fun _ => ?_)
                refine R_seg sg_71_186 sk_71_186 (pc' := 187) (lv' := [(7, .int (nI (ty * 32 + ke))), (6, .int (nI (PS (up2 r 30 1 0) (r 32 7)))), (5, .int (nI f)), (0, .ref 0), (1, .int (nI a)), (2, .int (nI ty)), (3, .int (nI ke)), (4, .int (nI tk))]) (st' := [.int 1]) (S' := stt (nw t) τ) (kc' := 0) (ks' := 0) rfl ⟨trivial, trivial⟩ ?_
                refine R_goto ck_71_187 ?_
                refine R_iret ck_71_191 rfl rfl ?_
                exact hfin
            · have c_103 : (r 5 a) < (PS (up2 r 30 1 0) (r 32 7)) := Nat.not_le.mp (fun zq => c_103 ((nI_leI (a := (PS (up2 r 30 1 0) (r 32 7))) (b := (r 5 a)) (by omega) (by omega)).mpr zq))
              refine R_seg sg_71_106 sk_71_106 (pc' := 119) (lv' := [(6, .int (nI (PS (up2 r 30 1 0) (r 32 7)))), (5, .int (nI f)), (0, .ref 0), (1, .int (nI a)), (2, .int (nI ty)), (3, .int (nI ke)), (4, .int (nI tk))]) (st' := [.int (nI a), .ref 5, .ref 32, .ref 0]) (S' := stt (nw (up2 r 30 1 0)) τ) (kc' := 0) (ks' := 0) rfl ⟨trivial, trivial, rfl, trivial, rfl, rfl, trivial, trivial⟩ ?_
              refine R_iald ca_71_119 (j := a) rfl rfl (by omega) ?_
              refine R_seg sg_71_120 sk_71_120 (pc' := 124) (lv' := [(6, .int (nI (PS (up2 r 30 1 0) (r 32 7)))), (5, .int (nI f)), (0, .ref 0), (1, .int (nI a)), (2, .int (nI ty)), (3, .int (nI ke)), (4, .int (nI tk))]) (st' := [.ref 16, .int (nI (r 5 a)), .ref 32, .ref 0]) (S' := stt (nw (up2 r 30 1 0)) τ) (kc' := 0) (ks' := 0) rfl ⟨trivial, rfl, trivial⟩ ?_
              refine R_virt ck_71_124 32 [.int (nI (r 5 a)), .ref 16] 0 0 (r := [.ref 0]) rfl rfl rfl (Nat.le_of_ble_eq_true rfl) (Nat.le_refl _) (Nat.le_refl _) ?_
              rcases PS_first (up2 r 30 1 0) (r 5 a) (r 32 7) with hz | ⟨k, k1, k2, k3⟩
              · exact absurd hz.1 (by omega)
              refine c_54 (d := d + 14) (w := up2 r 30 1 0) (has := r 5 a) hPq hNq.np (by omega) k1 k2 k3 ?_
              show RU_71 (d + 16) (0, 0) Post 127 ([(6, .int (nI (PS (up2 r 30 1 0) (r 32 7)))), (5, .int (nI f)), (0, .ref 0), (1, .int (nI a)), (2, .int (nI ty)), (3, .int (nI ke)), (4, .int (nI tk))]) ([.int (nI (r 34 k)), .ref 0]) (stt (nw (up2 r 30 1 0)) τ) 0 0
              refine R_seg sg_71_127 sk_71_127 (pc' := 131) (lv' := [(6, .int (nI (PS (up2 r 30 1 0) (r 32 7)))), (5, .int (nI f)), (0, .ref 0), (1, .int (nI a)), (2, .int (nI ty)), (3, .int (nI ke)), (4, .int (nI tk))]) (st' := [.int 2]) (S' := stt (up2 (nw (up2 r 30 1 0)) 0 9 (nI (r 34 k))) τ) (kc' := 0) (ks' := 0) rfl ⟨⟨rfl, ⟨rfl, rfl⟩⟩, trivial, trivial⟩ ?_
              show RU_71 (d + 16) (0, 0) Post 131 ([(6, .int (nI (PS (up2 r 30 1 0) (r 32 7)))), (5, .int (nI f)), (0, .ref 0), (1, .int (nI a)), (2, .int (nI ty)), (3, .int (nI ke)), (4, .int (nI tk))]) ([.int 2]) (stt (up2 (nw (up2 r 30 1 0)) 0 9 (nI (r 34 k))) τ) 0 0
              rw [nw_up (w := up2 r 30 1 0) (k := 0) (i := 9) (v := nI (r 34 k)) (n := r 34 k) rfl]
              refine R_iret ck_71_131 rfl rfl ?_
              exact hdr a ty ke tk r k (by omega) b_ty b_ke (by omega) (by omega) (by omega) rfl rfl rfl rfl hr0 k1 k2 k3
          · have c_70 : ¬ f = 0 := fun zq => c_70 ((nI_eq (a := f) (b := 0) (by omega) (by omega)).mpr zq)
            refine R_seg sg_71_73 sk_71_73 (pc' := 78) (lv' := [(5, .int (nI f)), (0, .ref 0), (1, .int (nI a)), (2, .int (nI ty)), (3, .int (nI ke)), (4, .int (nI tk))]) (st' := [.int ((-2) - (nI f))]) (S' := stt (nw (up2 r 30 1 0)) τ) (kc' := 0) (ks' := 0) rfl ⟨trivial, trivial, trivial, trivial⟩ ?_
            refine R_iret ck_71_78 rfl rfl ?_
            exact hfl a ty ke tk r f (by omega) b_ty b_ke (by omega) (by omega) (by omega) rfl rfl rfl rfl hr c_70
        · have c_41 : 100000 < (w 1 4 + tk) := Nat.not_le.mp (fun zq => c_41 ((nI_leI (a := (w 1 4 + tk)) (b := 100000) (by omega) (by omega)).mpr zq))
          refine R_seg sg_71_44 sk_71_44 (pc' := 45) (lv' := [(0, .ref 0), (1, .int (nI a)), (2, .int (nI ty)), (3, .int (nI ke)), (4, .int (nI tk))]) (st' := [.int (-1)]) (S' := stt (nw w) τ) (kc' := 0) (ks' := 0) rfl ⟨trivial, trivial⟩ ?_
          refine R_iret ck_71_45 rfl rfl ?_
          first | exact hf (fun q => n_a q.1) | exact hf (fun q => n_tk ⟨q.2.1, q.2.2.1⟩) | exact hf (fun q => n_tk q.2.2.2.1) | (refine hf (fun q => ?_); have := q.2.2.2.2 tk (by omega) rfl; omega)
      · show RU_71 (d + 16) (0, 0) Post 26 ([(0, .ref 0), (1, .int (nI a)), (2, .int (nI ty)), (3, .int (nI ke)), (4, .int x4)]) ([.int 0]) (stt (nw w) τ) 0 0
        refine R_if ck_71_26 (fun _ => ?_) (fun c => absurd (show (0 : Int32) = 0 from by decide) c)
        refine R_seg sg_71_44 sk_71_44 (pc' := 45) (lv' := [(0, .ref 0), (1, .int (nI a)), (2, .int (nI ty)), (3, .int (nI ke)), (4, .int x4)]) (st' := [.int (-1)]) (S' := stt (nw w) τ) (kc' := 0) (ks' := 0) rfl ⟨trivial, trivial⟩ ?_
        refine R_iret ck_71_45 rfl rfl ?_
        first | exact hf (fun q => n_a q.1) | exact hf (fun q => n_tk ⟨q.2.1, q.2.2.1⟩) | exact hf (fun q => n_tk q.2.2.2.1) | (refine hf (fun q => ?_); have := q.2.2.2.2 tk (by omega) rfl; omega)
    · show RU_71 (d + 16) (0, 0) Post 14 ([(0, .ref 0), (1, .int (nI a)), (2, .int x2), (3, .int x3), (4, .int x4)]) ([.int 0]) (stt (nw w) τ) 0 0
      refine R_if ck_71_14 (fun _ => ?_) (fun c => absurd (show (0 : Int32) = 0 from by decide) c)
      refine R_seg sg_71_44 sk_71_44 (pc' := 45) (lv' := [(0, .ref 0), (1, .int (nI a)), (2, .int x2), (3, .int x3), (4, .int x4)]) (st' := [.int (-1)]) (S' := stt (nw w) τ) (kc' := 0) (ks' := 0) rfl ⟨trivial, trivial⟩ ?_
      refine R_iret ck_71_45 rfl rfl ?_
      first | exact hf (fun q => n_a q.1) | exact hf (fun q => n_tk ⟨q.2.1, q.2.2.1⟩) | exact hf (fun q => n_tk q.2.2.2.1) | (refine hf (fun q => ?_); have := q.2.2.2.2 tk (by omega) rfl; omega)
  · show RU_71 (d + 16) (0, 0) Post 6 ([(0, .ref 0), (1, .int x1), (2, .int x2), (3, .int x3), (4, .int x4)]) ([.int 0]) (stt (nw w) τ) 0 0
    refine R_if ck_71_6 (fun _ => ?_) (fun c => absurd (show (0 : Int32) = 0 from by decide) c)
    refine R_seg sg_71_44 sk_71_44 (pc' := 45) (lv' := [(0, .ref 0), (1, .int x1), (2, .int x2), (3, .int x3), (4, .int x4)]) (st' := [.int (-1)]) (S' := stt (nw w) τ) (kc' := 0) (ks' := 0) rfl ⟨trivial, trivial⟩ ?_
    refine R_iret ck_71_45 rfl rfl ?_
    first | exact hf (fun q => n_a q.1) | exact hf (fun q => n_tk ⟨q.2.1, q.2.2.1⟩) | exact hf (fun q => n_tk q.2.2.2.1) | (refine hf (fun q => ?_); have := q.2.2.2.2 tk (by omega) rfl; omega)
set_option maxRecDepth 20000 in
theorem c_72 {d : Nat} {w : WW} {τ : Nat → Nat → Int64} {x1 : Int32} {Post : Option Value → Sto → Prop} (hS : SO w) (hP : PO w) (hT : TPc w) (hf : ¬ rg x1 0 5 → Post (some (.int (-1))) (stt (nw w) τ)) (hfl : ∀ (ty : Nat) (r : WW) (f : Nat), ty < 6 → x1 = nI ty → aRead w ty = (r, f) → ¬ f = 0 → Post (some (.int ((-2) - nI f))) (stt (nw r) τ)) (hok : ∀ (ty : Nat) (r : WW), ty < 6 → x1 = nI ty → aRead w ty = (r, 0) → Post (some (.int (nI (PS r (r 32 7))))) (stt (nw r) τ)) : Ex (d + 4) 72 [.ref 0, .int x1] (stt (nw w) τ) 0 0 Post := by
  refine en_72 (Nat.le_of_ble_eq_true rfl) ?_
  show RU_72 (d + 3) (0, 0) Post 0 ([(0, .ref 0), (1, .int x1)]) ([]) (stt (nw w) τ) 0 0
  refine R_seg sg_72_0 sk_72_0 (pc' := 3) (lv' := [(0, .ref 0), (1, .int x1)]) (st' := [.int 5, .int 0, .int x1]) (S' := stt (nw w) τ) (kc' := 0) (ks' := 0) rfl ⟨trivial, trivial, trivial, trivial⟩ ?_
  refine R_stat ck_72_3 (by decide) [.int x1, .int 0, .int 5] 0 0 (r := []) rfl rfl (Nat.le_of_ble_eq_true rfl) (Nat.le_refl _) (Nat.le_refl _) ?_
  refine xn_57 (d := d + 2) 0 5 (by omega) (by omega) (fun ty l_ty u_ty e_ty => ?_) (fun n_ty => ?_)
  · subst e_ty
    show RU_72 (d + 3) (0, 0) Post 6 ([(0, .ref 0), (1, .int (nI ty))]) ([.int 1]) (stt (nw w) τ) 0 0
    refine R_if ck_72_6 (fun _ => ?_) (fun c => absurd (show ¬ (1 : Int32) = 0 from by decide) c)
    refine R_seg sg_72_11 sk_72_11 (pc' := 20) (lv' := [(0, .ref 0), (1, .int (nI ty))]) (st' := [.int (nI ty), .ref 30, .ref 40]) (S' := stt (nw w) τ) (kc' := 0) (ks' := 0) rfl ⟨trivial, rfl, trivial, rfl, trivial, trivial⟩ ?_
    refine R_virt ck_72_20 40 [.ref 30, .int (nI ty)] 0 0 (r := []) rfl rfl rfl (Nat.le_of_ble_eq_true rfl) (Nat.le_refl _) (Nat.le_refl _) ?_
    obtain ⟨r, f, hr⟩ : ∃ r f, aRead w ty = (r, f) := ⟨_, _, rfl⟩
    have hro := aRead_ok hS (show ty < 6 by omega)
    have hfb := rd_le (w 30 1) 0 (rd0 w ty)
    have hfb : (aRead w ty).2 ≤ 1 + 4 * (0 + w 30 1) + 2 := hfb
    rw [hr] at hro hfb
    have hfb : f ≤ 1 + 4 * (0 + w 30 1) + 2 := hfb
    have hT1 := hT.1
    refine c_17 (d := d) hS hT (by omega) ?_
    rw [hr]
    show RU_72 (d + 3) (0, 0) Post 23 ([(0, .ref 0), (1, .int (nI ty))]) ([.int (nI f)]) (stt (nw r) τ) 0 0
    refine R_seg sg_72_23 sk_72_23 (pc' := 25) (lv' := [(2, .int (nI f)), (0, .ref 0), (1, .int (nI ty))]) (st' := [.int (nI f)]) (S' := stt (nw r) τ) (kc' := 0) (ks' := 0) rfl ⟨(by decide), trivial, trivial⟩ ?_
    refine R_if ck_72_25 (fun (c_25 : (nI f) = 0) => ?_) (fun (c_25 : ¬ (nI f) = 0) => ?_)
    · have c_25 : f = 0 := (nI_eq (a := f) (b := 0) (by omega) (by omega)).mp c_25
      have hf0 : f = 0 := c_25
      have hr0 : aRead w ty = (r, 0) := by rw [hr, hf0]
      have hR0 : RDY w r ty := hro.2 hf0
      refine R_seg sg_72_35 sk_72_35 (pc' := 43) (lv' := [(2, .int (nI f)), (0, .ref 0), (1, .int (nI ty))]) (st' := [.ref 16, .ref 32]) (S' := stt (nw r) τ) (kc' := 0) (ks' := 0) rfl ⟨trivial, rfl, trivial, rfl, trivial⟩ ?_
      refine R_virt ck_72_43 32 [.ref 16] 0 0 (r := []) rfl rfl rfl (Nat.le_of_ble_eq_true rfl) (Nat.le_refl _) (Nat.le_refl _) ?_
      refine c_52 (d := d + 1) (w := r) (hP.frd hro.1) hR0.2.1.np ?_
      show RU_72 (d + 3) (0, 0) Post 46 ([(2, .int (nI f)), (0, .ref 0), (1, .int (nI ty))]) ([.int (nI (PS r (r 32 7)))]) (stt (nw r) τ) 0 0
      refine R_iret ck_72_46 rfl rfl ?_
      exact hok ty r (by omega) rfl hr0
    · have c_25 : ¬ f = 0 := fun zq => c_25 ((nI_eq (a := f) (b := 0) (by omega) (by omega)).mpr zq)
      refine R_seg sg_72_28 sk_72_28 (pc' := 32) (lv' := [(2, .int (nI f)), (0, .ref 0), (1, .int (nI ty))]) (st' := [.int ((-2) - (nI f))]) (S' := stt (nw r) τ) (kc' := 0) (ks' := 0) rfl ⟨trivial, trivial, trivial, trivial⟩ ?_
      refine R_goto ck_72_32 ?_
      refine R_iret ck_72_46 rfl rfl ?_
      exact hfl ty r f (by omega) rfl hr c_25
  · show RU_72 (d + 3) (0, 0) Post 6 ([(0, .ref 0), (1, .int x1)]) ([.int 0]) (stt (nw w) τ) 0 0
    refine R_if ck_72_6 (fun c => absurd c (show ¬ ¬ (0 : Int32) = 0 from by decide)) (fun _ => ?_)
    refine R_seg sg_72_9 sk_72_9 (pc' := 10) (lv' := [(0, .ref 0), (1, .int x1)]) (st' := [.int (-1)]) (S' := stt (nw w) τ) (kc' := 0) (ks' := 0) rfl ⟨trivial, trivial⟩ ?_
    refine R_iret ck_72_10 rfl rfl ?_
    exact hf n_ty
