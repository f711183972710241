/-! ===== ask and cost: the model ===== -/
theorem PS_fr {a w : WW} (e18 : a 18 = w 18) (e33 : a 33 = w 33) (e35 : a 35 = w 35) : ∀ m, PS a m = PS w m
  | 0 => rfl
  | m + 1 => by
    show PS a m + a 18 (a 33 m) * a 35 m = PS w m + w 18 (w 33 m) * w 35 m
    rw [PS_fr e18 e33 e35 m, e18, e33, e35]
theorem m_101 {d has : Nat} {hs : Int64} {r v : WW} {τ : Nat → Nat → Int64} (hP : PO r) (hN : NP r) (hM : RMd r v τ) (e70 : v 70 = r 18) (hh : has ≤ 500) (hhs : hs = (nI has).toInt64) {Post : Option Value → Sto → Prop} (hd : ∀ k, k < r 32 7 → has < PS r (k + 1) → (∀ j, j < k → PS r (j + 1) ≤ has) → Post (some (.int (nI k))) (stt (nw v) (up2 τ 57 43 (lN (PS r (r 32 7)))))) (ho : PS r (r 32 7) ≤ has → Post (some (.int (-1))) (stt (nw v) (up2 τ 57 43 (lN (PS r (r 32 7)))))) : Ex (d + 1) 101 [.ref 57, .long hs] (stt (nw v) τ) 0 0 Post := by
  have hn := hN.1
  have hty : ∀ i, i < r 32 7 → ∃ t : Nat, nw v 87 i = nI t ∧ t < 6 := fun i hi => ⟨r 33 i, congrArg nI (hM.2.1 i hi).1.1, (hN.2 i hi).1⟩
  have e := mSum_n hP hN hM e70 (r 32 7) (Nat.le_refl _)
  have c : ∀ j, j + 1 ≤ r 32 7 → (lg_cmp (mSum (nw v) τ (j + 1)) hs ≤ 0 ↔ PS r (j + 1) ≤ has) := by
    intro j hj
    have b := PS_le hP hN (j + 1) hj
    rw [mSum_n hP hN hM e70 (j + 1) hj, hhs, nI_l (by omega), lg_cmp_le, lN_le (by omega) (by omega)]
  rcases PS_first r has (r 32 7) with ⟨z1, z2⟩ | ⟨k, k1, k2, k3⟩
  · refine x_101 (σ := nw v) (nd := r 32 7) (k := r 32 7) (congrArg nI hM.1) hn hty hn (fun q => absurd q (Nat.lt_irrefl _)) (fun j hj => (c j hj).mpr (z2 j hj)) ?_
    rw [dr_le (Nat.le_refl _), e]
    exact ho z1
  · refine x_101 (σ := nw v) (nd := r 32 7) (k := k) (congrArg nI hM.1) hn hty (by omega) (fun q => fun z => absurd ((c k k1).mp z) (by omega)) (fun j hj => (c j (by omega)).mpr (k3 j hj)) ?_
    rw [show dr k (r 32 7) = nI k from if_neg (by omega), e]
    exact hd k k1 k2 k3
theorem lgle2 {p : Nat} (h : p ≤ 112500) : lg_cmp (lN p) (2000000000 : Int32).toInt64 ≤ 0 := by
  rw [show (2000000000 : Int32).toInt64 = lN 2000000000 from rfl, lg_cmp_le, lN_le (by omega) (by omega)]
  omega
set_option maxRecDepth 20000 in
theorem m_102a {d : Nat} {v : WW} {τ : Nat → Nat → Int64} {x1 x2 x3 x4 : Int32} {Post : Option Value → Sto → Prop} (hn1 : v 57 1 ≤ 100000) (hf : ¬ (rg x1 0 3 ∧ rg x2 0 5 ∧ rg x3 0 31 ∧ rg x4 1 200 ∧ ∀ t, t ≤ 200 → x4 = nI t → v 57 1 + t ≤ 100000) → Post (some (.int (-1))) (stt (nw v) τ)) (hgo : ∀ as ty ke tk : Nat, as < 4 → ty < 6 → ke < 32 → 1 ≤ tk → tk ≤ 200 → v 57 1 + tk ≤ 100000 → x1 = nI as → x2 = nI ty → x3 = nI ke → x4 = nI tk → RU_102 (d + 20) (0, 0) Post 43 [(0, .ref 57), (1, .int (nI as)), (2, .int (nI ty)), (3, .int (nI ke)), (4, .int (nI tk))] [] (stt (nw v) τ) 0 0) : Ex (d + 21) 102 [.ref 57, .int x1, .int x2, .int x3, .int x4] (stt (nw v) τ) 0 0 Post := by
  refine en_102 (Nat.le_of_ble_eq_true rfl) ?_
  show RU_102 (d + 20) (0, 0) Post 0 ([(0, .ref 57), (1, .int x1), (2, .int x2), (3, .int x3), (4, .int x4)]) ([]) (stt (nw v) τ) 0 0
  refine R_seg sg_102_0 sk_102_0 (pc' := 3) (lv' := [(0, .ref 57), (1, .int x1), (2, .int x2), (3, .int x3), (4, .int x4)]) (st' := [.int 3, .int 0, .int x1]) (S' := stt (nw v) τ) (kc' := 0) (ks' := 0) rfl ⟨trivial, trivial, trivial, trivial⟩ ?_
  refine R_stat ck_102_3 (by decide) [.int x1, .int 0, .int 3] 0 0 (r := []) rfl rfl (Nat.le_of_ble_eq_true rfl) (Nat.le_refl _) (Nat.le_refl _) ?_
  refine xn_81 (d := d + 19) 0 3 (by omega) (by omega) (fun as l_as u_as e_as => ?_) (fun n_as => ?_)
  · subst e_as
    show RU_102 (d + 20) (0, 0) Post 6 ([(0, .ref 57), (1, .int (nI as)), (2, .int x2), (3, .int x3), (4, .int x4)]) ([.int 1]) (stt (nw v) τ) 0 0
    refine R_if ck_102_6 (fun c => absurd c (show ¬ (1 : Int32) = 0 from by decide)) (fun _ => ?_)
    refine R_seg sg_102_9 sk_102_9 (pc' := 11) (lv' := [(0, .ref 57), (1, .int (nI as)), (2, .int x2), (3, .int x3), (4, .int x4)]) (st' := [.int x3, .int x2]) (S' := stt (nw v) τ) (kc' := 0) (ks' := 0) rfl ⟨trivial, trivial, trivial⟩ ?_
    refine R_stat ck_102_11 (by decide) [.int x2, .int x3] 0 0 (r := []) rfl rfl (Nat.le_of_ble_eq_true rfl) (Nat.le_refl _) (Nat.le_refl _) ?_
    refine x_86 (d := d + 18) (fun ty ke b_ty b_ke e_ty e_ke => ?_) (fun n_tk => ?_)
    · subst e_ty; subst e_ke
      show RU_102 (d + 20) (0, 0) Post 14 ([(0, .ref 57), (1, .int (nI as)), (2, .int (nI ty)), (3, .int (nI ke)), (4, .int x4)]) ([.int 1]) (stt (nw v) τ) 0 0
      refine R_if ck_102_14 (fun c => absurd c (show ¬ (1 : Int32) = 0 from by decide)) (fun _ => ?_)
      refine R_seg sg_102_17 sk_102_17 (pc' := 23) (lv' := [(0, .ref 57), (1, .int (nI as)), (2, .int (nI ty)), (3, .int (nI ke)), (4, .int x4)]) (st' := [.int 200, .int 1, .int x4]) (S' := stt (nw v) τ) (kc' := 0) (ks' := 0) rfl ⟨trivial, trivial, trivial, trivial⟩ ?_
      refine R_stat ck_102_23 (by decide) [.int x4, .int 1, .int 200] 0 0 (r := []) rfl rfl (Nat.le_of_ble_eq_true rfl) (Nat.le_refl _) (Nat.le_refl _) ?_
      refine xn_81 (d := d + 19) 1 200 (by omega) (by omega) (fun tk l_tk u_tk e_tk => ?_) (fun n_tk => ?_)
      · subst e_tk
        show RU_102 (d + 20) (0, 0) Post 26 ([(0, .ref 57), (1, .int (nI as)), (2, .int (nI ty)), (3, .int (nI ke)), (4, .int (nI tk))]) ([.int 1]) (stt (nw v) τ) 0 0
        refine R_if ck_102_26 (fun c => absurd c (show ¬ (1 : Int32) = 0 from by decide)) (fun _ => ?_)
        refine R_seg [(.aload_n 0, 1, 0, 0, 0, 0), (.getfield 176, 3, 11, 1, 0, 0), (.iload 4, 2, 0, 0, 0, 0), (.iadd, 1, 0, 0, 0, 0)] (by decide +kernel) (pc' := 36) (lv' := [(0, .ref 57), (1, .int (nI as)), (2, .int (nI ty)), (3, .int (nI ke)), (4, .int (nI tk))]) (st' := [.int ((nI (v 57 1)) + (nI tk))]) (S' := stt (nw v) τ) (kc' := 0) (ks' := 0) rfl ⟨trivial, rfl, trivial, trivial, trivial⟩ ?_
        rw [nI_add (v 57 1)]
        skip
        refine R_seg [(.ldc 169, 2, 0, 0, 0, 100000)] (by decide +kernel) (pc' := 38) (lv' := [(0, .ref 57), (1, .int (nI as)), (2, .int (nI ty)), (3, .int (nI ke)), (4, .int (nI tk))]) (st' := [.int 100000, .int (nI (v 57 1 + tk))]) (S' := stt (nw v) τ) (kc' := 0) (ks' := 0) rfl ⟨trivial, trivial⟩ ?_
        refine R_icmp ck_102_38 (fun (c_38 : (nI (v 57 1 + tk)) ≤ 100000) => ?_) (fun (c_38 : ¬ (nI (v 57 1 + tk)) ≤ 100000) => ?_)
        · have c_38 : (v 57 1 + tk) ≤ 100000 := (nI_leI (a := (v 57 1 + tk)) (b := 100000) (by omega) (by omega)).mp c_38
          refine Runs.lv (lv := [(0, .ref 57), (1, .int (nI as)), (2, .int (nI ty)), (3, .int (nI ke)), (4, .int (nI tk))]) ?_ _ (lvS_l (show ([0, 1, 2, 3, 4] : List Nat).Nodup from by decide) (by intro q hq; simp only [List.mem_cons, List.not_mem_nil, or_false] at hq; rcases hq with rfl | rfl | rfl | rfl | rfl <;> rfl))
          exact hgo as ty ke tk (by omega) b_ty b_ke (by omega) (by omega) (by omega) rfl rfl rfl rfl
        · have c_38 : 100000 < (v 57 1 + tk) := Nat.not_le.mp (fun zq => c_38 ((nI_leI (a := (v 57 1 + tk)) (b := 100000) (by omega) (by omega)).mpr zq))
          refine R_seg sg_102_41 sk_102_41 (pc' := 42) (lv' := [(0, .ref 57), (1, .int (nI as)), (2, .int (nI ty)), (3, .int (nI ke)), (4, .int (nI tk))]) (st' := [.int (-1)]) (S' := stt (nw v) τ) (kc' := 0) (ks' := 0) rfl ⟨trivial, trivial⟩ ?_
          refine R_iret ck_102_42 rfl rfl ?_
          first | exact hf (fun q => n_as q.1) | exact hf (fun q => n_tk ⟨q.2.1, q.2.2.1⟩) | exact hf (fun q => n_tk q.2.2.2.1) | (refine hf (fun q => ?_); have := q.2.2.2.2 tk (by omega) rfl; omega)
      · show RU_102 (d + 20) (0, 0) Post 26 ([(0, .ref 57), (1, .int (nI as)), (2, .int (nI ty)), (3, .int (nI ke)), (4, .int x4)]) ([.int 0]) (stt (nw v) τ) 0 0
        refine R_if ck_102_26 (fun _ => ?_) (fun c => absurd (show (0 : Int32) = 0 from by decide) c)
        refine R_seg sg_102_41 sk_102_41 (pc' := 42) (lv' := [(0, .ref 57), (1, .int (nI as)), (2, .int (nI ty)), (3, .int (nI ke)), (4, .int x4)]) (st' := [.int (-1)]) (S' := stt (nw v) τ) (kc' := 0) (ks' := 0) rfl ⟨trivial, trivial⟩ ?_
        refine R_iret ck_102_42 rfl rfl ?_
        first | exact hf (fun q => n_as q.1) | exact hf (fun q => n_tk ⟨q.2.1, q.2.2.1⟩) | exact hf (fun q => n_tk q.2.2.2.1) | (refine hf (fun q => ?_); have := q.2.2.2.2 tk (by omega) rfl; omega)
    · show RU_102 (d + 20) (0, 0) Post 14 ([(0, .ref 57), (1, .int (nI as)), (2, .int x2), (3, .int x3), (4, .int x4)]) ([.int 0]) (stt (nw v) τ) 0 0
      refine R_if ck_102_14 (fun _ => ?_) (fun c => absurd (show (0 : Int32) = 0 from by decide) c)
      refine R_seg sg_102_41 sk_102_41 (pc' := 42) (lv' := [(0, .ref 57), (1, .int (nI as)), (2, .int x2), (3, .int x3), (4, .int x4)]) (st' := [.int (-1)]) (S' := stt (nw v) τ) (kc' := 0) (ks' := 0) rfl ⟨trivial, trivial⟩ ?_
      refine R_iret ck_102_42 rfl rfl ?_
      first | exact hf (fun q => n_as q.1) | exact hf (fun q => n_tk ⟨q.2.1, q.2.2.1⟩) | exact hf (fun q => n_tk q.2.2.2.1) | (refine hf (fun q => ?_); have := q.2.2.2.2 tk (by omega) rfl; omega)
  · show RU_102 (d + 20) (0, 0) Post 6 ([(0, .ref 57), (1, .int x1), (2, .int x2), (3, .int x3), (4, .int x4)]) ([.int 0]) (stt (nw v) τ) 0 0
    refine R_if ck_102_6 (fun _ => ?_) (fun c => absurd (show (0 : Int32) = 0 from by decide) c)
    refine R_seg sg_102_41 sk_102_41 (pc' := 42) (lv' := [(0, .ref 57), (1, .int x1), (2, .int x2), (3, .int x3), (4, .int x4)]) (st' := [.int (-1)]) (S' := stt (nw v) τ) (kc' := 0) (ks' := 0) rfl ⟨trivial, trivial⟩ ?_
    refine R_iret ck_102_42 rfl rfl ?_
    first | exact hf (fun q => n_as q.1) | exact hf (fun q => n_tk ⟨q.2.1, q.2.2.1⟩) | exact hf (fun q => n_tk q.2.2.2.1) | (refine hf (fun q => ?_); have := q.2.2.2.2 tk (by omega) rfl; omega)
set_option maxRecDepth 20000 in
theorem m_102b {d as ty ke tk f : Nat} {w v r : WW} {τ : Nat → Nat → Int64} {Post : Option Value → Sto → Prop} (has : as < 4) (hty : ty < 6) (hS : SO w) (hP : PO w) (hTc : TPc w) (hT : TPR w v) (hK : v 72 = w 20 ∧ v 73 = w 21 ∧ v 74 = w 22) (e70 : v 70 = w 18) (hr : aRead w ty = (r, f)) (e85 : v 85 = w 5) (h500 : w 5 as ≤ 500) (hfl : ∀ v1 τ1, OUT v τ (r, f) v1 τ1 → ¬ f = 0 → Post (some (.int ((-2) - nI f))) (stt (nw (up2 v1 57 32 0)) τ1)) (hdr : ∀ v1 τ1 k, OUT v τ (r, f) v1 τ1 → f = 0 → k < r 32 7 → r 5 as < PS r (k + 1) → (∀ j, j < k → PS r (j + 1) ≤ r 5 as) → Post (some (.int 2)) (stt (nw (up2 (up2 v1 57 32 0) 57 58 (r 34 k))) (up2 τ1 57 43 (lN (PS r (r 32 7)))))) (hok : ∀ v1 τ1, OUT v τ (r, f) v1 τ1 → f = 0 → PS r (r 32 7) ≤ r 5 as → RU_102 (d + 20) (0, 0) Post 114 [(0, .ref 57), (1, .int (nI as)), (2, .int (nI ty)), (3, .int (nI ke)), (4, .int (nI tk))] [] (stt (nw (up2 (up2 v1 57 32 0) 85 as (r 5 as - PS r (r 32 7)))) (up2 τ1 57 43 (lN (PS r (r 32 7))))) 0 0) : RU_102 (d + 20) (0, 0) Post 43 [(0, .ref 57), (1, .int (nI as)), (2, .int (nI ty)), (3, .int (nI ke)), (4, .int (nI tk))] [] (stt (nw v) τ) 0 0 := by
  have hro := (aRead_ok hS hty).2
  have hF := (aRead_ok hS hty).1
  have hfb := rd_le (w 30 1) 0 (rd0 w ty)
  have hfb : (aRead w ty).2 ≤ 1 + 4 * (0 + w 30 1) + 2 := hfb
  rw [hr] at hro hF hfb
  have hro : f = 0 → RDY w r ty := hro
  have hF : FRD w r := hF
  have hfb : f ≤ 1 + 4 * (0 + w 30 1) + 2 := hfb
  have hT1 := hTc.1
  refine R_seg sg_102_43 sk_102_43 (pc' := 45) (lv' := [(0, .ref 57), (1, .int (nI as)), (2, .int (nI ty)), (3, .int (nI ke)), (4, .int (nI tk))]) (st' := [.int (nI ty), .ref 57]) (S' := stt (nw v) τ) (kc' := 0) (ks' := 0) rfl ⟨trivial, trivial, trivial⟩ ?_
  refine R_virt ck_102_45 57 [.int (nI ty)] 0 0 (r := []) rfl rfl rfl (Nat.le_of_ble_eq_true rfl) (Nat.le_refl _) (Nat.le_refl _) ?_
  refine m_97 (d := d + 17) hS hTc hT hty hK (fun v1 τ1 hO => ?_)
  rw [hr] at hO
  have e34 : v1 57 34 = f := hO.1
  have e85r : v1 85 as = r 5 as := by rw [hO.2.1.1 85 (by decide) (by decide), e85, hF.1 5 (by decide)]
  have e70r : v1 70 = r 18 := by rw [hO.2.1.1 70 (by decide) (by decide), e70, hF.1 18 (by decide)]
  show RU_102 (d + 20) (0, 0) Post 48 ([(0, .ref 57), (1, .int (nI as)), (2, .int (nI ty)), (3, .int (nI ke)), (4, .int (nI tk))]) ([]) (stt (nw v1) τ1) 0 0
  refine R_seg [(.aload_n 0, 1, 0, 0, 0, 0), (.iconst 0, 1, 0, 0, 0, 0), (.putfield 183, 3, 11, 32, 0, 0)] (by decide +kernel) (pc' := 53) (lv' := [(0, .ref 57), (1, .int (nI as)), (2, .int (nI ty)), (3, .int (nI ke)), (4, .int (nI tk))]) (st' := []) (S' := stt (up2 (nw v1) 57 32 0) τ1) (kc' := 0) (ks' := 0) rfl ⟨trivial, trivial, ⟨rfl, ⟨rfl, rfl⟩⟩, trivial⟩ ?_
  show RU_102 (d + 20) (0, 0) Post 53 ([(0, .ref 57), (1, .int (nI as)), (2, .int (nI ty)), (3, .int (nI ke)), (4, .int (nI tk))]) ([]) (stt (up2 (nw v1) 57 32 0) τ1) 0 0
  rw [nw_up (w := v1) (k := 57) (i := 32) (v := 0) (n := 0) rfl]
  skip
  refine R_seg [(.aload_n 0, 1, 0, 0, 0, 0), (.getfield 192, 3, 11, 34, 0, 0)] (by decide +kernel) (pc' := 57) (lv' := [(0, .ref 57), (1, .int (nI as)), (2, .int (nI ty)), (3, .int (nI ke)), (4, .int (nI tk))]) (st' := [.int (nI (v1 57 34))]) (S' := stt (nw (up2 v1 57 32 0)) τ1) (kc' := 0) (ks' := 0) rfl ⟨trivial, rfl, trivial⟩ ?_
  rw [e34]
  skip
  refine R_if ck_102_57 (fun (c_57 : (nI f) ≤ 0) => ?_) (fun (c_57 : ¬ (nI f) ≤ 0) => ?_)
  · have c_57 : f ≤ 0 := (nI_leI (a := f) (b := 0) (by omega) (by omega)).mp c_57
    have hf0 : f = 0 := by omega
    have hR0 : RDY w r ty := hro hf0
    have hPr : PO r := hP.frd hF
    have e5 : r 5 = w 5 := hF.1 5 (by decide)
    have h5r : r 5 as ≤ 500 := by rw [e5]; exact h500
    refine R_seg sg_102_68 sk_102_68 (pc' := 74) (lv' := [(0, .ref 57), (1, .int (nI as)), (2, .int (nI ty)), (3, .int (nI ke)), (4, .int (nI tk))]) (st' := [.int (nI as), .ref 85, .ref 57]) (S' := stt (nw (up2 v1 57 32 0)) τ1) (kc' := 0) (ks' := 0) rfl ⟨trivial, trivial, rfl, trivial, trivial⟩ ?_
    refine R_iald ca_102_74 (j := as) rfl rfl (by omega) ?_
    show RU_102 (d + 20) (0, 0) Post 75 ([(0, .ref 57), (1, .int (nI as)), (2, .int (nI ty)), (3, .int (nI ke)), (4, .int (nI tk))]) ([.int (nI (v1 85 as)), .ref 57]) (stt (nw (up2 v1 57 32 0)) τ1) 0 0
    rw [e85r]
    refine R_seg sg_102_75 sk_102_75 (pc' := 76) (lv' := [(0, .ref 57), (1, .int (nI as)), (2, .int (nI ty)), (3, .int (nI ke)), (4, .int (nI tk))]) (st' := [.long ((nI (r 5 as)).toInt64), .ref 57]) (S' := stt (nw (up2 v1 57 32 0)) τ1) (kc' := 0) (ks' := 0) rfl ⟨trivial, trivial⟩ ?_
    refine R_virt ck_102_76 57 [.long ((nI (r 5 as)).toInt64)] 0 0 (r := []) rfl rfl rfl (Nat.le_of_ble_eq_true rfl) (Nat.le_refl _) (Nat.le_refl _) ?_
    have hM : RMd r v1 τ1 := hO.2.2 hf0
    have hNr : NP r := hR0.2.1.np
    have hnn := hNr.1
    have hle := PS_le hPr hNr (r 32 7) (Nat.le_refl _)
    refine m_101 (d := d + 19) (has := r 5 as) (r := r) (v := up2 v1 57 32 0) hPr hNr hM e70r (by omega) rfl (fun k k1 k2 k3 => ?_) (fun k0 => ?_)
    · show RU_102 (d + 20) (0, 0) Post 79 ([(0, .ref 57), (1, .int (nI as)), (2, .int (nI ty)), (3, .int (nI ke)), (4, .int (nI tk))]) ([.int (nI k)]) (stt (nw (up2 v1 57 32 0)) (up2 τ1 57 43 (lN (PS r (r 32 7))))) 0 0
      refine R_seg sg_102_79 sk_102_79 (pc' := 84) (lv' := [(5, .int (nI k)), (0, .ref 57), (1, .int (nI as)), (2, .int (nI ty)), (3, .int (nI ke)), (4, .int (nI tk))]) (st' := [.int (-1), .int (nI k)]) (S' := stt (nw (up2 v1 57 32 0)) (up2 τ1 57 43 (lN (PS r (r 32 7))))) (kc' := 0) (ks' := 0) rfl ⟨(by decide), trivial, trivial, trivial⟩ ?_
      refine R_icmp ck_102_84 (fun (c_84 : (nI k) = (-1)) => ?_) (fun (c_84 : ¬ (nI k) = (-1)) => ?_)
      · exact absurd c_84 (nI_m1 (by omega))
      · refine R_seg sg_102_87 sk_102_87 (pc' := 94) (lv' := [(5, .int (nI k)), (0, .ref 57), (1, .int (nI as)), (2, .int (nI ty)), (3, .int (nI ke)), (4, .int (nI tk))]) (st' := [.int (nI k), .ref 88, .ref 57]) (S' := stt (nw (up2 v1 57 32 0)) (up2 τ1 57 43 (lN (PS r (r 32 7))))) (kc' := 0) (ks' := 0) rfl ⟨trivial, trivial, rfl, trivial, trivial⟩ ?_
        refine R_iald ca_102_94 (j := k) rfl rfl (by omega) ?_
        show RU_102 (d + 20) (0, 0) Post 95 ([(5, .int (nI k)), (0, .ref 57), (1, .int (nI as)), (2, .int (nI ty)), (3, .int (nI ke)), (4, .int (nI tk))]) ([.int (nI (v1 88 k)), .ref 57]) (stt (nw (up2 v1 57 32 0)) (up2 τ1 57 43 (lN (PS r (r 32 7))))) 0 0
        rw [show v1 88 k = r 34 k from (hM.2.1 k k1).1.2.1]
        refine R_seg sg_102_95 sk_102_95 (pc' := 99) (lv' := [(5, .int (nI k)), (0, .ref 57), (1, .int (nI as)), (2, .int (nI ty)), (3, .int (nI ke)), (4, .int (nI tk))]) (st' := [.int 2]) (S' := stt (up2 (nw (up2 v1 57 32 0)) 57 58 (nI (r 34 k))) (up2 τ1 57 43 (lN (PS r (r 32 7))))) (kc' := 0) (ks' := 0) rfl ⟨⟨rfl, ⟨rfl, rfl⟩⟩, trivial, trivial⟩ ?_
        show RU_102 (d + 20) (0, 0) Post 99 ([(5, .int (nI k)), (0, .ref 57), (1, .int (nI as)), (2, .int (nI ty)), (3, .int (nI ke)), (4, .int (nI tk))]) ([.int 2]) (stt (up2 (nw (up2 v1 57 32 0)) 57 58 (nI (r 34 k))) (up2 τ1 57 43 (lN (PS r (r 32 7))))) 0 0
        rw [nw_up (w := up2 v1 57 32 0) (k := 57) (i := 58) (v := nI (r 34 k)) (n := r 34 k) rfl]
        refine R_iret ck_102_99 rfl rfl ?_
        exact hdr v1 τ1 k hO hf0 k1 k2 k3
    · show RU_102 (d + 20) (0, 0) Post 79 ([(0, .ref 57), (1, .int (nI as)), (2, .int (nI ty)), (3, .int (nI ke)), (4, .int (nI tk))]) ([.int (-1)]) (stt (nw (up2 v1 57 32 0)) (up2 τ1 57 43 (lN (PS r (r 32 7))))) 0 0
      refine R_seg sg_102_79 sk_102_79 (pc' := 84) (lv' := [(5, .int (-1)), (0, .ref 57), (1, .int (nI as)), (2, .int (nI ty)), (3, .int (nI ke)), (4, .int (nI tk))]) (st' := [.int (-1), .int (-1)]) (S' := stt (nw (up2 v1 57 32 0)) (up2 τ1 57 43 (lN (PS r (r 32 7))))) (kc' := 0) (ks' := 0) rfl ⟨(by decide), trivial, trivial, trivial⟩ ?_
      refine R_icmp ck_102_84 (fun _ => ?_) (fun c => absurd (show (-1 : Int32) = (-1) from by decide) c)
      refine R_seg sg_102_100 sk_102_100 (pc' := 106) (lv' := [(5, .int (-1)), (0, .ref 57), (1, .int (nI as)), (2, .int (nI ty)), (3, .int (nI ke)), (4, .int (nI tk))]) (st' := [.int (nI as), .ref 85, .int (nI as), .ref 85]) (S' := stt (nw (up2 v1 57 32 0)) (up2 τ1 57 43 (lN (PS r (r 32 7))))) (kc' := 0) (ks' := 0) rfl ⟨trivial, rfl, trivial, ⟨rfl, rfl⟩, trivial⟩ ?_
      refine R_iald ca_102_106 (j := as) rfl rfl (by omega) ?_
      show RU_102 (d + 20) (0, 0) Post 107 ([(5, .int (-1)), (0, .ref 57), (1, .int (nI as)), (2, .int (nI ty)), (3, .int (nI ke)), (4, .int (nI tk))]) ([.int (nI (v1 85 as)), .int (nI as), .ref 85]) (stt (nw (up2 v1 57 32 0)) (up2 τ1 57 43 (lN (PS r (r 32 7))))) 0 0
      rw [e85r]
      skip
      refine R_seg [(.aload_n 0, 1, 0, 0, 0, 0), (.getfield 209, 3, 11, 43, 1, 0), (.l2i, 1, 0, 0, 0, 0)] (by decide +kernel) (pc' := 112) (lv' := [(5, .int (-1)), (0, .ref 57), (1, .int (nI as)), (2, .int (nI ty)), (3, .int (nI ke)), (4, .int (nI tk))]) (st' := [.int ((lN (PS r (r 32 7))).toInt32), .int (nI (r 5 as)), .int (nI as), .ref 85]) (S' := stt (nw (up2 v1 57 32 0)) (up2 τ1 57 43 (lN (PS r (r 32 7))))) (kc' := 0) (ks' := 0) rfl ⟨trivial, rfl, trivial, trivial⟩ ?_
      rw [lN_i]
      skip
      refine R_seg [(.isub, 1, 0, 0, 0, 0)] (by decide +kernel) (pc' := 113) (lv' := [(5, .int (-1)), (0, .ref 57), (1, .int (nI as)), (2, .int (nI ty)), (3, .int (nI ke)), (4, .int (nI tk))]) (st' := [.int ((nI (r 5 as)) - (nI (PS r (r 32 7)))), .int (nI as), .ref 85]) (S' := stt (nw (up2 v1 57 32 0)) (up2 τ1 57 43 (lN (PS r (r 32 7))))) (kc' := 0) (ks' := 0) rfl ⟨trivial, trivial⟩ ?_
      refine R_iast ca_102_113 (j := as) rfl rfl (by omega) ?_
      show RU_102 (d + 20) (0, 0) Post 114 ([(5, .int (-1)), (0, .ref 57), (1, .int (nI as)), (2, .int (nI ty)), (3, .int (nI ke)), (4, .int (nI tk))]) ([]) (stt (up2 (nw (up2 v1 57 32 0)) 85 as ((nI (r 5 as)) - (nI (PS r (r 32 7))))) (up2 τ1 57 43 (lN (PS r (r 32 7))))) 0 0
      rw [nw_up (w := up2 v1 57 32 0) (k := 85) (i := as) (v := (nI (r 5 as)) - (nI (PS r (r 32 7)))) (n := r 5 as - PS r (r 32 7)) (pk_sub k0)]
      refine Runs.lv (lv := [(0, .ref 57), (1, .int (nI as)), (2, .int (nI ty)), (3, .int (nI ke)), (4, .int (nI tk))]) ?_ _ (lvS_l (show ([0, 1, 2, 3, 4] : List Nat).Nodup from by decide) (by intro q hq; simp only [List.mem_cons, List.not_mem_nil, or_false] at hq; rcases hq with rfl | rfl | rfl | rfl | rfl <;> rfl))
      exact hok v1 τ1 hO hf0 k0
  · have c_57 : 0 < f := Nat.not_le.mp (fun zq => c_57 ((nI_leI (a := f) (b := 0) (by omega) (by omega)).mpr zq))
    refine R_seg [(.bipush (-2), 2, 0, 0, 0, -2), (.aload_n 0, 1, 0, 0, 0, 0), (.getfield 192, 3, 11, 34, 0, 0)] (by decide +kernel) (pc' := 66) (lv' := [(0, .ref 57), (1, .int (nI as)), (2, .int (nI ty)), (3, .int (nI ke)), (4, .int (nI tk))]) (st' := [.int (nI (v1 57 34)), .int (-2)]) (S' := stt (nw (up2 v1 57 32 0)) τ1) (kc' := 0) (ks' := 0) rfl ⟨trivial, trivial, rfl, trivial⟩ ?_
    rw [e34]
    skip
    refine R_seg [(.isub, 1, 0, 0, 0, 0)] (by decide +kernel) (pc' := 67) (lv' := [(0, .ref 57), (1, .int (nI as)), (2, .int (nI ty)), (3, .int (nI ke)), (4, .int (nI tk))]) (st' := [.int ((-2) - (nI f))]) (S' := stt (nw (up2 v1 57 32 0)) τ1) (kc' := 0) (ks' := 0) rfl ⟨trivial, trivial⟩ ?_
    refine R_iret ck_102_67 rfl rfl ?_
    exact hfl v1 τ1 hO (by omega)
set_option maxRecDepth 20000 in
theorem m_102e {d as ty ke tk : Nat} {a v : WW} {τ : Nat → Nat → Int64} {Post : Option Value → Sto → Prop} (hty : ty < 6) (hke : ke < 32) (hC : TCx a) (ho : OKn a 5 0 (ty * 32 + ke)) (hm : mkd a 0 (ty * 32 + ke)) (hR : Rl a v) (hW : 7 * Wt a 5 0 ≤ 3500) (hp : ∀ t, TLM (up2 (up2 v 57 59 0) 57 60 0) (TT a 5 0 (ty * 32 + ke)).1 (TT a 5 0 (ty * 32 + ke)).2.2 t → Post (some (.int (nI (bn (TT a 5 0 (ty * 32 + ke)).2.2)))) (stt (nw t) τ)) : RU_102 (d + 20) (0, 0) Post 288 [(0, .ref 57), (1, .int (nI as)), (2, .int (nI ty)), (3, .int (nI ke)), (4, .int (nI tk))] [] (stt (nw v) τ) 0 0 := by
  have s2 : SM v (up2 (up2 v 57 59 0) 57 60 0) := ⟨fun k k1 k2 => by rw [up2_k _ _ _ _ k1, up2_k _ _ _ _ k1], fun i i1 i2 => by simp [up2, va_up, i1, i2]⟩
  refine R_seg [(.aload_n 0, 1, 0, 0, 0, 0), (.iconst 0, 1, 0, 0, 0, 0), (.putfield 279, 3, 11, 59, 0, 0)] (by decide +kernel) (pc' := 293) (lv' := [(0, .ref 57), (1, .int (nI as)), (2, .int (nI ty)), (3, .int (nI ke)), (4, .int (nI tk))]) (st' := []) (S' := stt (up2 (nw v) 57 59 0) τ) (kc' := 0) (ks' := 0) rfl ⟨trivial, trivial, ⟨rfl, ⟨rfl, rfl⟩⟩, trivial⟩ ?_
  show RU_102 (d + 20) (0, 0) Post 293 ([(0, .ref 57), (1, .int (nI as)), (2, .int (nI ty)), (3, .int (nI ke)), (4, .int (nI tk))]) ([]) (stt (up2 (nw v) 57 59 0) τ) 0 0
  rw [nw_up (w := v) (k := 57) (i := 59) (v := 0) (n := 0) rfl]
  skip
  refine R_seg [(.aload_n 0, 1, 0, 0, 0, 0), (.iconst 0, 1, 0, 0, 0, 0), (.putfield 282, 3, 11, 60, 0, 0)] (by decide +kernel) (pc' := 298) (lv' := [(0, .ref 57), (1, .int (nI as)), (2, .int (nI ty)), (3, .int (nI ke)), (4, .int (nI tk))]) (st' := []) (S' := stt (up2 (nw (up2 v 57 59 0)) 57 60 0) τ) (kc' := 0) (ks' := 0) rfl ⟨trivial, trivial, ⟨rfl, ⟨rfl, rfl⟩⟩, trivial⟩ ?_
  show RU_102 (d + 20) (0, 0) Post 298 ([(0, .ref 57), (1, .int (nI as)), (2, .int (nI ty)), (3, .int (nI ke)), (4, .int (nI tk))]) ([]) (stt (up2 (nw (up2 v 57 59 0)) 57 60 0) τ) 0 0
  rw [nw_up (w := up2 v 57 59 0) (k := 57) (i := 60) (v := 0) (n := 0) rfl]
  skip
  refine R_seg [(.aload_n 0, 1, 0, 0, 0, 0), (.bipush 32, 2, 0, 0, 0, 32), (.iload_n 2, 1, 0, 0, 0, 0), (.imul, 1, 0, 0, 0, 0), (.iload_n 3, 1, 0, 0, 0, 0), (.iadd, 1, 0, 0, 0, 0)] (by decide +kernel) (pc' := 305) (lv' := [(0, .ref 57), (1, .int (nI as)), (2, .int (nI ty)), (3, .int (nI ke)), (4, .int (nI tk))]) (st' := [.int ((32 * (nI ty)) + (nI ke)), .ref 57]) (S' := stt (nw (up2 (up2 v 57 59 0) 57 60 0)) τ) (kc' := 0) (ks' := 0) rfl ⟨trivial, trivial, trivial, trivial, trivial, trivial, trivial⟩ ?_
  rw [show (32 : Int32) * nI ty + nI ke = nI (ty * 32 + ke) from by rw [show (32 : Int32) = nI 32 from rfl, pk_mul, nI_add, Nat.mul_comm]]
  skip
  refine R_seg [(.iconst 0, 1, 0, 0, 0, 0)] (by decide +kernel) (pc' := 306) (lv' := [(0, .ref 57), (1, .int (nI as)), (2, .int (nI ty)), (3, .int (nI ke)), (4, .int (nI tk))]) (st' := [.int 0, .int (nI (ty * 32 + ke)), .ref 57]) (S' := stt (nw (up2 (up2 v 57 59 0) 57 60 0)) τ) (kc' := 0) (ks' := 0) rfl ⟨trivial, trivial⟩ ?_
  refine R_virt ck_102_306 57 [.int (nI (ty * 32 + ke)), .int 0] 0 0 (r := []) rfl rfl rfl (Nat.le_of_ble_eq_true rfl) (Nat.le_refl _) (Nat.le_refl _) ?_
  refine m_answers (d + 11) 5 0 (ty * 32 + ke) a (up2 (up2 v 57 59 0) 57 60 0) τ _ hC ho hm (hR.sm s2) (by rw [show (up2 (up2 v 57 59 0) 57 60 0) 57 59 = 0 from rfl]; omega) (fun t ht => ?_)
  have e60 : t 57 60 = bn (TT a 5 0 (ty * 32 + ke)).2.2 := by
    rw [ht.2.2.1]
    rcases (TT a 5 0 (ty * 32 + ke)).2.2 with _ | _ <;> rfl
  have hbn : bn (TT a 5 0 (ty * 32 + ke)).2.2 ≤ 1 := by
    rcases (TT a 5 0 (ty * 32 + ke)).2.2 with _ | _ <;> decide
  show RU_102 (d + 20) (0, 0) Post 309 ([(0, .ref 57), (1, .int (nI as)), (2, .int (nI ty)), (3, .int (nI ke)), (4, .int (nI tk))]) ([]) (stt (nw t) τ) 0 0
  refine R_seg sg_102_309 sk_102_309 (pc' := 313) (lv' := [(0, .ref 57), (1, .int (nI as)), (2, .int (nI ty)), (3, .int (nI ke)), (4, .int (nI tk))]) (st' := [.int (nI (t 57 60))]) (S' := stt (nw t) τ) (kc' := 0) (ks' := 0) rfl ⟨trivial, rfl, trivial⟩ ?_
  rw [e60]
  skip
  refine R_if ck_102_313 (fun (c_313 : (nI (bn (TT a 5 0 (ty * 32 + ke)).2.2)) = 0) => ?_) (fun (c_313 : ¬ (nI (bn (TT a 5 0 (ty * 32 + ke)).2.2)) = 0) => ?_)
  · have c_313 : (bn (TT a 5 0 (ty * 32 + ke)).2.2) = 0 := (nI_eq (a := (bn (TT a 5 0 (ty * 32 + ke)).2.2)) (b := 0) (by omega) (by omega)).mp c_313
    refine R_seg sg_102_320 sk_102_320 (pc' := 321) (lv' := [(0, .ref 57), (1, .int (nI as)), (2, .int (nI ty)), (3, .int (nI ke)), (4, .int (nI tk))]) (st' := [.int 0]) (S' := stt (nw t) τ) (kc' := 0) (ks' := 0) rfl ⟨trivial, trivial⟩ ?_
    refine R_iret ck_102_321 rfl rfl ?_
    have q := hp t ht
    rw [c_313] at q
    exact q
  · have c_313 : ¬ (bn (TT a 5 0 (ty * 32 + ke)).2.2) = 0 := fun zq => c_313 ((nI_eq (a := (bn (TT a 5 0 (ty * 32 + ke)).2.2)) (b := 0) (by omega) (by omega)).mpr zq)
    refine R_seg sg_102_316 sk_102_316 (pc' := 317) (lv' := [(0, .ref 57), (1, .int (nI as)), (2, .int (nI ty)), (3, .int (nI ke)), (4, .int (nI tk))]) (st' := [.int 1]) (S' := stt (nw t) τ) (kc' := 0) (ks' := 0) rfl ⟨trivial, trivial⟩ ?_
    refine R_goto ck_102_317 ?_
    refine R_iret ck_102_321 rfl rfl ?_
    have q := hp t ht
    rw [show bn (TT a 5 0 (ty * 32 + ke)).2.2 = 1 by omega] at q
    exact q
set_option maxRecDepth 20000 in
theorem m_96 {d ty f : Nat} {w v r : WW} {τ : Nat → Nat → Int64} {Post : Option Value → Sto → Prop} (hty : ty < 6) (hS : SO w) (hP : PO w) (hTc : TPc w) (hT : TPR w v) (hK : v 72 = w 20 ∧ v 73 = w 21 ∧ v 74 = w 22) (e70 : v 70 = w 18) (hr : aRead w ty = (r, f)) (hfl : ∀ v1 τ1, OUT v τ (r, f) v1 τ1 → ¬ f = 0 → Post (some (.int ((-2) - nI f))) (stt (nw v1) τ1)) (hok : ∀ v1 τ1, OUT v τ (r, f) v1 τ1 → f = 0 → Post (some (.int (nI (PS r (r 32 7))))) (stt (nw v1) (up2 τ1 57 43 (lN (PS r (r 32 7)))))) : Ex (d + 4) 96 [.ref 57, .int (nI ty)] (stt (nw v) τ) 0 0 Post := by
  refine en_96 (Nat.le_of_ble_eq_true rfl) ?_
  show RU_96 (d + 3) (0, 0) Post 0 ([(0, .ref 57), (1, .int (nI ty))]) ([]) (stt (nw v) τ) 0 0
  have hro := (aRead_ok hS hty).2
  have hF := (aRead_ok hS hty).1
  have hfb := rd_le (w 30 1) 0 (rd0 w ty)
  have hfb : (aRead w ty).2 ≤ 1 + 4 * (0 + w 30 1) + 2 := hfb
  rw [hr] at hro hF hfb
  have hro : f = 0 → RDY w r ty := hro
  have hF : FRD w r := hF
  have hfb : f ≤ 1 + 4 * (0 + w 30 1) + 2 := hfb
  have hT1 := hTc.1
  refine R_seg sg_96_0 sk_96_0 (pc' := 3) (lv' := [(0, .ref 57), (1, .int (nI ty))]) (st' := [.int 5, .int 0, .int (nI ty)]) (S' := stt (nw v) τ) (kc' := 0) (ks' := 0) rfl ⟨trivial, trivial, trivial, trivial⟩ ?_
  refine R_stat ck_96_3 (by decide) [.int (nI ty), .int 0, .int 5] 0 0 (r := []) rfl rfl (Nat.le_of_ble_eq_true rfl) (Nat.le_refl _) (Nat.le_refl _) ?_
  refine x_81 (d := d + 2) (fun _ _ => ?_) (fun c => ?_)
  rotate_left
  · exact absurd c (by rw [show (0 : Int32) = nI 0 from rfl, show (5 : Int32) = nI 5 from rfl, nI_ltI (by omega) (by omega), nI_ltI (by omega) (by omega)]; omega)
  show RU_96 (d + 3) (0, 0) Post 6 ([(0, .ref 57), (1, .int (nI ty))]) ([.int 1]) (stt (nw v) τ) 0 0
  refine R_if ck_96_6 (fun _ => ?_) (fun c => absurd (show ¬ (1 : Int32) = 0 from by decide) c)
  refine R_seg sg_96_11 sk_96_11 (pc' := 13) (lv' := [(0, .ref 57), (1, .int (nI ty))]) (st' := [.int (nI ty), .ref 57]) (S' := stt (nw v) τ) (kc' := 0) (ks' := 0) rfl ⟨trivial, trivial, trivial⟩ ?_
  refine R_virt ck_96_13 57 [.int (nI ty)] 0 0 (r := []) rfl rfl rfl (Nat.le_of_ble_eq_true rfl) (Nat.le_refl _) (Nat.le_refl _) ?_
  refine m_97 (d := d) hS hTc hT hty hK (fun v1 τ1 hO => ?_)
  rw [hr] at hO
  have e34 : v1 57 34 = f := hO.1
  have e70r : v1 70 = r 18 := by rw [hO.2.1.1 70 (by decide) (by decide), e70, hF.1 18 (by decide)]
  show RU_96 (d + 3) (0, 0) Post 16 ([(0, .ref 57), (1, .int (nI ty))]) ([]) (stt (nw v1) τ1) 0 0
  refine R_seg sg_96_16 sk_96_16 (pc' := 20) (lv' := [(0, .ref 57), (1, .int (nI ty))]) (st' := [.int (nI (v1 57 34))]) (S' := stt (nw v1) τ1) (kc' := 0) (ks' := 0) rfl ⟨trivial, rfl, trivial⟩ ?_
  rw [e34]
  skip
  refine R_if ck_96_20 (fun (c_20 : (nI f) ≤ 0) => ?_) (fun (c_20 : ¬ (nI f) ≤ 0) => ?_)
  · have c_20 : f ≤ 0 := (nI_leI (a := f) (b := 0) (by omega) (by omega)).mp c_20
    have hf0 : f = 0 := by omega
    have hR0 : RDY w r ty := hro hf0
    have hPr : PO r := hP.frd hF
    refine R_seg sg_96_31 sk_96_31 (pc' := 33) (lv' := [(0, .ref 57), (1, .int (nI ty))]) (st' := [.long ((0 : Int32).toInt64), .ref 57]) (S' := stt (nw v1) τ1) (kc' := 0) (ks' := 0) rfl ⟨trivial, trivial, trivial⟩ ?_
    refine R_virt ck_96_33 57 [.long ((0 : Int32).toInt64)] 0 0 (r := []) rfl rfl rfl (Nat.le_of_ble_eq_true rfl) (Nat.le_refl _) (Nat.le_refl _) ?_
    have hM : RMd r v1 τ1 := hO.2.2 hf0
    have hNr : NP r := hR0.2.1.np
    have hnn := hNr.1
    have hle := PS_le hPr hNr (r 32 7) (Nat.le_refl _)
    refine m_101 (d := d + 2) (has := 0) (r := r) (v := v1) hPr hNr hM e70r (by omega) rfl (fun k k1 k2 k3 => ?_) (fun k0 => ?_)
    · show RU_96 (d + 3) (0, 0) Post 36 ([(0, .ref 57), (1, .int (nI ty))]) ([.int (nI k)]) (stt (nw v1) (up2 τ1 57 43 (lN (PS r (r 32 7))))) 0 0
      refine R_seg sg_96_36 sk_96_36 (pc' := 45) (lv' := [(0, .ref 57), (1, .int (nI ty))]) (st' := [.int (lg_cmp (lN (PS r (r 32 7))) ((2000000000 : Int32).toInt64))]) (S' := stt (nw v1) (up2 τ1 57 43 (lN (PS r (r 32 7))))) (kc' := 0) (ks' := 0) rfl ⟨rfl, trivial, rfl, trivial, trivial, trivial⟩ ?_
      refine R_if ck_96_45 (fun (c_45 : (lg_cmp (lN (PS r (r 32 7))) ((2000000000 : Int32).toInt64)) ≤ 0) => ?_) (fun (c_45 : ¬ (lg_cmp (lN (PS r (r 32 7))) ((2000000000 : Int32).toInt64)) ≤ 0) => ?_)
      · refine R_seg sg_96_53 sk_96_53 (pc' := 58) (lv' := [(0, .ref 57), (1, .int (nI ty))]) (st' := [.int ((lN (PS r (r 32 7))).toInt32)]) (S' := stt (nw v1) (up2 τ1 57 43 (lN (PS r (r 32 7))))) (kc' := 0) (ks' := 0) rfl ⟨trivial, rfl, trivial, trivial⟩ ?_
        rw [lN_i]
        skip
        refine R_iret ck_96_58 rfl rfl ?_
        exact hok v1 τ1 hO hf0
      · exact absurd (lgle2 (by omega)) c_45
    · show RU_96 (d + 3) (0, 0) Post 36 ([(0, .ref 57), (1, .int (nI ty))]) ([.int (-1)]) (stt (nw v1) (up2 τ1 57 43 (lN (PS r (r 32 7))))) 0 0
      refine R_seg sg_96_36 sk_96_36 (pc' := 45) (lv' := [(0, .ref 57), (1, .int (nI ty))]) (st' := [.int (lg_cmp (lN (PS r (r 32 7))) ((2000000000 : Int32).toInt64))]) (S' := stt (nw v1) (up2 τ1 57 43 (lN (PS r (r 32 7))))) (kc' := 0) (ks' := 0) rfl ⟨rfl, trivial, rfl, trivial, trivial, trivial⟩ ?_
      refine R_if ck_96_45 (fun (c_45 : (lg_cmp (lN (PS r (r 32 7))) ((2000000000 : Int32).toInt64)) ≤ 0) => ?_) (fun (c_45 : ¬ (lg_cmp (lN (PS r (r 32 7))) ((2000000000 : Int32).toInt64)) ≤ 0) => ?_)
      · refine R_seg sg_96_53 sk_96_53 (pc' := 58) (lv' := [(0, .ref 57), (1, .int (nI ty))]) (st' := [.int ((lN (PS r (r 32 7))).toInt32)]) (S' := stt (nw v1) (up2 τ1 57 43 (lN (PS r (r 32 7))))) (kc' := 0) (ks' := 0) rfl ⟨trivial, rfl, trivial, trivial⟩ ?_
        rw [lN_i]
        skip
        refine R_iret ck_96_58 rfl rfl ?_
        exact hok v1 τ1 hO hf0
      · exact absurd (lgle2 (by omega)) c_45
  · have c_20 : 0 < f := Nat.not_le.mp (fun zq => c_20 ((nI_leI (a := f) (b := 0) (by omega) (by omega)).mpr zq))
    refine R_seg [(.bipush (-2), 2, 0, 0, 0, -2), (.aload_n 0, 1, 0, 0, 0, 0), (.getfield 192, 3, 11, 34, 0, 0)] (by decide +kernel) (pc' := 29) (lv' := [(0, .ref 57), (1, .int (nI ty))]) (st' := [.int (nI (v1 57 34)), .int (-2)]) (S' := stt (nw v1) τ1) (kc' := 0) (ks' := 0) rfl ⟨trivial, trivial, rfl, trivial⟩ ?_
    rw [e34]
    skip
    refine R_seg [(.isub, 1, 0, 0, 0, 0)] (by decide +kernel) (pc' := 30) (lv' := [(0, .ref 57), (1, .int (nI ty))]) (st' := [.int ((-2) - (nI f))]) (S' := stt (nw v1) τ1) (kc' := 0) (ks' := 0) rfl ⟨trivial, trivial⟩ ?_
    refine R_iret ck_96_30 rfl rfl ?_
    exact hfl v1 τ1 hO (by omega)
