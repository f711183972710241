/-! ===== Model.reads: one round of its loop ===== -/
theorem decp {n : Nat} (h : 1 ≤ n) : nI n + (-1) = nI (n - 1) := by
  obtain ⟨m, rfl⟩ : ∃ m, n = m + 1 := ⟨n - 1, by omega⟩
  rw [pk_m1]
  rfl
theorem idx48 {t b : Nat} (h : 48 ≤ b) : ((4 : Int32) * nI t + nI b) - 48 = nI (t * 4 + (b - 48)) := by
  rw [show (4 : Int32) = nI 4 from rfl, show (48 : Int32) = nI 48 from rfl, pk_mul, nI_add, pk_sub (by omega)]
  congr 1
  omega
set_option maxHeartbeats 4000000 in
set_option maxRecDepth 20000 in
theorem s_97r {d : Nat} {σ : Nat → Nat → Int32} {τ : Nat → Nat → Int64} {dp n w t kd nd p q q2 bv b2 len : Nat} {ty : Int32} (hft : σ 57 34 = 0) (hdp1 : 1 ≤ dp) (hdp5 : dp ≤ 5) (hon : σ 93 (dp - 1) = nI n) (hn : n < 20) (hat : σ 57 33 = nI p) (hlen : σ 57 32 = nI len) (hlen2 : len ≤ 200) (hpq : p ≤ q) (hq2 : q ≤ len) (hbl : ∀ i, p ≤ i → i < q → σ 86 i = 32) (hne : q < len → ¬ σ 86 q = 32) (hbv : q < len → σ 86 q &&& 255 = nI bv) (hbv2 : bv < 256) (hw : σ 89 n = nI w) (hw6 : w ≤ 6) (ht : σ 87 n = nI t) (ht6 : t < 6) (hkd : 48 ≤ bv → bv ≤ 51 → σ 72 (t * 4 + (bv - 48)) = nI kd) (hkd3 : kd < 3) (hnd : σ 57 35 = nI nd) (hnd2 : nd ≤ 20) (hq12 : q < len → q + 1 ≤ q2) (hq22 : q2 ≤ len) (hbl2 : q < len → ∀ i, q + 1 ≤ i → i < q2 → σ 86 i = 32) (hne2 : q2 < len → ¬ σ 86 q2 = 32) (hb2 : q2 < len → σ 86 q2 &&& 255 = nI b2) (hb22 : b2 < 256) {Post : Option Value → Sto → Prop} (hF0 : (q = len ∨ (bv = 125 ∧ w = 0) ∨ (¬ bv = 125 ∧ ¬ (48 ≤ bv ∧ bv ≤ 51))) → Post none (stt (up2 (up2 σ 57 33 (nI q)) 57 34 (nI (1 + 4 * q + 0))) τ)) (hF2 : q < len → (48 ≤ bv ∧ bv ≤ 51) → w = 6 → Post none (stt (up2 (up2 σ 57 33 (nI q)) 57 34 (nI (1 + 4 * q + 2))) τ)) (hC : (q < len ∧ bv = 125) → 0 < w → RU_97 (d + 2) (0, 0) Post 43 [(2, .int (nI (dp - 1))), (0, .ref 57), (1, .int ty)] [] (stt (up2 (up2 σ 57 33 (nI q)) 57 33 (nI q + 1)) τ) 0 0) (hN : q < len → (48 ≤ bv ∧ bv ≤ 51) → w < 6 → kd = 0 → RU_97 (d + 2) (0, 0) Post 43 [(2, .int (nI dp)), (0, .ref 57), (1, .int ty)] [] (stt (up2 (up2 (up2 (up2 (up2 σ 57 33 (nI q)) 90 (n * 6 + w) (nI (bv - 48))) 91 (n * 6 + w) (-1)) 89 n (nI w + 1)) 57 33 (nI q + 1)) τ) 0 0) (hF3 : q < len → (48 ≤ bv ∧ bv ≤ 51) → w < 6 → ¬ kd = 0 → (q2 = len ∨ ¬ b2 = 123) → Post none (stt (up2 (up2 (up2 (up2 (up2 (up2 (up2 σ 57 33 (nI q)) 90 (n * 6 + w) (nI (bv - 48))) 91 (n * 6 + w) (-1)) 89 n (nI w + 1)) 57 33 (nI q + 1)) 57 33 (nI q2)) 57 34 (nI (1 + 4 * q2 + 0))) τ)) (hF4 : q < len → (48 ≤ bv ∧ bv ≤ 51) → w < 6 → ¬ kd = 0 → (q2 < len ∧ b2 = 123) → (nd = 20 ∨ dp = 5) → Post none (stt (up2 (up2 (up2 (up2 (up2 (up2 (up2 (up2 σ 57 33 (nI q)) 90 (n * 6 + w) (nI (bv - 48))) 91 (n * 6 + w) (-1)) 89 n (nI w + 1)) 57 33 (nI q + 1)) 57 33 (nI q2)) 91 (n * 6 + w) (nI nd)) 57 34 (nI (1 + 4 * q2 + 1))) τ)) (hBL : q < len → (48 ≤ bv ∧ bv ≤ 51) → w < 6 → ¬ kd = 0 → (q2 < len ∧ b2 = 123) → kd = 2 → nd < 20 → dp < 5 → RU_97 (d + 2) (0, 0) Post 43 [(2, .int (nI dp + 1)), (0, .ref 57), (1, .int ty)] [] (stt (m_beg (up2 (up2 (up2 (up2 (up2 (up2 (up2 σ 57 33 (nI q)) 90 (n * 6 + w) (nI (bv - 48))) 91 (n * 6 + w) (-1)) 89 n (nI w + 1)) 57 33 (nI q + 1)) 57 33 (nI q2)) 91 (n * 6 + w) (nI nd)) nd dp q2 (σ 73 (t * 4 + (bv - 48)))) (up2 τ 92 nd (τ 92 n * (σ 74 (t * 4 + (bv - 48))).toInt64))) 0 0) (hBR : q < len → (48 ≤ bv ∧ bv ≤ 51) → w < 6 → ¬ kd = 0 → (q2 < len ∧ b2 = 123) → ¬ kd = 2 → nd < 20 → dp < 5 → RU_97 (d + 2) (0, 0) Post 43 [(2, .int (nI dp + 1)), (0, .ref 57), (1, .int ty)] [] (stt (m_beg (up2 (up2 (up2 (up2 (up2 (up2 (up2 σ 57 33 (nI q)) 90 (n * 6 + w) (nI (bv - 48))) 91 (n * 6 + w) (-1)) 89 n (nI w + 1)) 57 33 (nI q + 1)) 57 33 (nI q2)) 91 (n * 6 + w) (nI nd)) nd dp q2 (σ 73 (t * 4 + (bv - 48)))) (up2 τ 92 nd (τ 92 n * (1 : Int32).toInt64))) 0 0) : RU_97 (d + 2) (0, 0) Post 43 [(2, .int (nI dp)), (0, .ref 57), (1, .int ty)] [] (stt σ τ) 0 0 := by
  refine R_seg sg_97_43 sk_97_43 (pc' := 47) (lv' := [(2, .int (nI dp)), (0, .ref 57), (1, .int ty)]) (st' := [.int (σ 57 34)]) (S' := stt σ τ) (kc' := 0) (ks' := 0) rfl ⟨trivial, rfl, trivial⟩ ?_
  rw [hft]
  refine R_if ck_97_47 (fun c => absurd c (show ¬ ¬ (0 : Int32) = 0 from by decide)) (fun _ => ?_)
  refine R_seg sg_97_50 sk_97_50 (pc' := 51) (lv' := [(2, .int (nI dp)), (0, .ref 57), (1, .int ty)]) (st' := [.int (nI dp)]) (S' := stt σ τ) (kc' := 0) (ks' := 0) rfl ⟨trivial, trivial⟩ ?_
  refine R_if ck_97_51 (fun (c_51 : (nI dp) ≤ 0) => ?_) (fun (c_51 : ¬ (nI dp) ≤ 0) => ?_)
  · have c_51 : dp ≤ 0 := (nI_leI (a := dp) (b := 0) (by omega) (by omega)).mp c_51
    omega
  · have c_51 : 0 < dp := Nat.not_le.mp (fun zq => c_51 ((nI_leI (a := dp) (b := 0) (by omega) (by omega)).mpr zq))
    refine R_seg sg_97_54 sk_97_54 (pc' := 61) (lv' := [(2, .int (nI dp)), (0, .ref 57), (1, .int ty)]) (st' := [.int ((nI dp) - 1), .ref 93]) (S' := stt σ τ) (kc' := 0) (ks' := 0) rfl ⟨trivial, rfl, trivial, trivial, trivial, trivial⟩ ?_
    rw [show nI dp - 1 = nI (dp - 1) from pk_sub (b := 1) (by omega)]
    refine R_iald ca_97_61 (j := dp - 1) rfl rfl (by omega) ?_
    show RU_97 (d + 2) (0, 0) Post 62 ([(2, .int (nI dp)), (0, .ref 57), (1, .int ty)]) ([.int (σ 93 (dp - 1))]) (stt σ τ) 0 0
    rw [hon]
    refine R_seg sg_97_62 sk_97_62 (pc' := 64) (lv' := [(3, .int (nI n)), (2, .int (nI dp)), (0, .ref 57), (1, .int ty)]) (st' := [.ref 57]) (S' := stt σ τ) (kc' := 0) (ks' := 0) rfl ⟨(by decide), trivial, trivial⟩ ?_
    refine R_virt ck_97_64 57 [] 0 0 (r := []) rfl rfl rfl (Nat.le_of_ble_eq_true rfl) (Nat.le_refl _) (Nat.le_refl _) ?_
    refine x_98 (d := d + 1) hat hlen hlen2 hpq hq2 hbl hne (fun o_1 => ?_) (fun o_1 => ?_)
    · show RU_97 (d + 2) (0, 0) Post 67 ([(3, .int (nI n)), (2, .int (nI dp)), (0, .ref 57), (1, .int ty)]) ([.int (-1)]) (stt (up2 σ 57 33 (nI q)) τ) 0 0
      refine R_seg sg_97_67 sk_97_67 (pc' := 73) (lv' := [(4, .int (-1)), (3, .int (nI n)), (2, .int (nI dp)), (0, .ref 57), (1, .int ty)]) (st' := [.int 125, .int (-1)]) (S' := stt (up2 σ 57 33 (nI q)) τ) (kc' := 0) (ks' := 0) rfl ⟨(by decide), trivial, trivial, trivial⟩ ?_
      refine R_icmp ck_97_73 (fun _ => ?_) (fun c => absurd (show ¬ (-1 : Int32) = 125 from by decide) c)
      refine R_seg sg_97_101 sk_97_101 (pc' := 105) (lv' := [(4, .int (-1)), (3, .int (nI n)), (2, .int (nI dp)), (0, .ref 57), (1, .int ty)]) (st' := [.int 48, .int (-1)]) (S' := stt (up2 σ 57 33 (nI q)) τ) (kc' := 0) (ks' := 0) rfl ⟨trivial, trivial, trivial⟩ ?_
      refine R_icmp ck_97_105 (fun _ => ?_) (fun c => absurd (show (-1 : Int32) < 48 from by decide) c)
      refine R_seg sg_97_115 sk_97_115 (pc' := 121) (lv' := [(4, .int (-1)), (3, .int (nI n)), (2, .int (nI dp)), (0, .ref 57), (1, .int ty)]) (st' := [.int (nI q), .int 0, .ref 57]) (S' := stt (up2 σ 57 33 (nI q)) τ) (kc' := 0) (ks' := 0) rfl ⟨trivial, trivial, trivial, rfl, trivial⟩ ?_
      refine R_virt ck_97_121 57 [.int 0, .int (nI q)] 0 0 (r := []) rfl rfl rfl (Nat.le_of_ble_eq_true rfl) (Nat.le_refl _) (Nat.le_refl _) ?_
      refine x_99 (d := d + 1) (fun _ => ?_) (fun zq => absurd hft zq)
      rw [show ((1 : Int32) + 4 * (nI q)) + 0 = nI (1 + 4 * q + 0) from by simp only [nl_0, nl_1, nl_2, nl_3, nl_4, nl_5, nl_6, nl_8, nl_20, nl_31, nl_32, pk_mul, nI_add]]
      show RU_97 (d + 2) (0, 0) Post 124 ([(4, .int (-1)), (3, .int (nI n)), (2, .int (nI dp)), (0, .ref 57), (1, .int ty)]) ([]) (stt (up2 (up2 σ 57 33 (nI q)) 57 34 (nI (1 + 4 * q + 0))) τ) 0 0
      refine R_goto ck_97_124 ?_
      refine R_goto ck_97_306 ?_
      refine Runs.lv (lv := [(2, .int (nI dp)), (0, .ref 57), (1, .int ty)]) ?_ _ (lvS_l (show ([2, 0, 1] : List Nat).Nodup from by decide) (by intro q hq; simp only [List.mem_cons, List.not_mem_nil, or_false] at hq; rcases hq with rfl | rfl | rfl <;> rfl))
      refine s_97f (fun zq => ?_) ?_
      · exact nI_ne0 (by omega) (by omega) zq
      · exact hF0 (by omega)
    · show RU_97 (d + 2) (0, 0) Post 67 ([(3, .int (nI n)), (2, .int (nI dp)), (0, .ref 57), (1, .int ty)]) ([.int ((σ 86 q) &&& 255)]) (stt (up2 σ 57 33 (nI q)) τ) 0 0
      refine R_seg sg_97_67 sk_97_67 (pc' := 73) (lv' := [(4, .int ((σ 86 q) &&& 255)), (3, .int (nI n)), (2, .int (nI dp)), (0, .ref 57), (1, .int ty)]) (st' := [.int 125, .int ((σ 86 q) &&& 255)]) (S' := stt (up2 σ 57 33 (nI q)) τ) (kc' := 0) (ks' := 0) rfl ⟨(by decide), trivial, trivial, trivial⟩ ?_
      rw [hbv (by omega)]
      refine R_icmp ck_97_73 (fun (c_73 : ¬ (nI bv) = 125) => ?_) (fun (c_73 : ¬ ¬ (nI bv) = 125) => ?_)
      · have c_73 : ¬ bv = 125 := fun zq => c_73 ((nI_eq (a := bv) (b := 125) (by omega) (by omega)).mpr zq)
        refine R_seg sg_97_101 sk_97_101 (pc' := 105) (lv' := [(4, .int (nI bv)), (3, .int (nI n)), (2, .int (nI dp)), (0, .ref 57), (1, .int ty)]) (st' := [.int 48, .int (nI bv)]) (S' := stt (up2 σ 57 33 (nI q)) τ) (kc' := 0) (ks' := 0) rfl ⟨trivial, trivial, trivial⟩ ?_
        refine R_icmp ck_97_105 (fun (c_105 : (nI bv) < 48) => ?_) (fun (c_105 : ¬ (nI bv) < 48) => ?_)
        · have c_105 : bv < 48 := (nI_ltI (a := bv) (b := 48) (by omega) (by omega)).mp c_105
          refine R_seg sg_97_115 sk_97_115 (pc' := 121) (lv' := [(4, .int (nI bv)), (3, .int (nI n)), (2, .int (nI dp)), (0, .ref 57), (1, .int ty)]) (st' := [.int (nI q), .int 0, .ref 57]) (S' := stt (up2 σ 57 33 (nI q)) τ) (kc' := 0) (ks' := 0) rfl ⟨trivial, trivial, trivial, rfl, trivial⟩ ?_
          refine R_virt ck_97_121 57 [.int 0, .int (nI q)] 0 0 (r := []) rfl rfl rfl (Nat.le_of_ble_eq_true rfl) (Nat.le_refl _) (Nat.le_refl _) ?_
          refine x_99 (d := d + 1) (fun _ => ?_) (fun zq => absurd hft zq)
          rw [show ((1 : Int32) + 4 * (nI q)) + 0 = nI (1 + 4 * q + 0) from by simp only [nl_0, nl_1, nl_2, nl_3, nl_4, nl_5, nl_6, nl_8, nl_20, nl_31, nl_32, pk_mul, nI_add]]
          show RU_97 (d + 2) (0, 0) Post 124 ([(4, .int (nI bv)), (3, .int (nI n)), (2, .int (nI dp)), (0, .ref 57), (1, .int ty)]) ([]) (stt (up2 (up2 σ 57 33 (nI q)) 57 34 (nI (1 + 4 * q + 0))) τ) 0 0
          refine R_goto ck_97_124 ?_
          refine R_goto ck_97_306 ?_
          refine Runs.lv (lv := [(2, .int (nI dp)), (0, .ref 57), (1, .int ty)]) ?_ _ (lvS_l (show ([2, 0, 1] : List Nat).Nodup from by decide) (by intro q hq; simp only [List.mem_cons, List.not_mem_nil, or_false] at hq; rcases hq with rfl | rfl | rfl <;> rfl))
          refine s_97f (fun zq => ?_) ?_
          · exact nI_ne0 (by omega) (by omega) zq
          · exact hF0 (by omega)
        · have c_105 : 48 ≤ bv := Nat.not_lt.mp (fun zq => c_105 ((nI_ltI (a := bv) (b := 48) (by omega) (by omega)).mpr zq))
          refine R_seg sg_97_108 sk_97_108 (pc' := 112) (lv' := [(4, .int (nI bv)), (3, .int (nI n)), (2, .int (nI dp)), (0, .ref 57), (1, .int ty)]) (st' := [.int 51, .int (nI bv)]) (S' := stt (up2 σ 57 33 (nI q)) τ) (kc' := 0) (ks' := 0) rfl ⟨trivial, trivial, trivial⟩ ?_
          refine R_icmp ck_97_112 (fun (c_112 : (nI bv) ≤ 51) => ?_) (fun (c_112 : ¬ (nI bv) ≤ 51) => ?_)
          · have c_112 : bv ≤ 51 := (nI_leI (a := bv) (b := 51) (by omega) (by omega)).mp c_112
            refine R_seg sg_97_127 sk_97_127 (pc' := 132) (lv' := [(4, .int (nI bv)), (3, .int (nI n)), (2, .int (nI dp)), (0, .ref 57), (1, .int ty)]) (st' := [.int (nI n), .ref 89]) (S' := stt (up2 σ 57 33 (nI q)) τ) (kc' := 0) (ks' := 0) rfl ⟨trivial, rfl, trivial, trivial⟩ ?_
            refine R_iald ca_97_132 (j := n) rfl rfl (by omega) ?_
            show RU_97 (d + 2) (0, 0) Post 133 ([(4, .int (nI bv)), (3, .int (nI n)), (2, .int (nI dp)), (0, .ref 57), (1, .int ty)]) ([.int (σ 89 n)]) (stt (up2 σ 57 33 (nI q)) τ) 0 0
            rw [hw]
            refine R_seg sg_97_133 sk_97_133 (pc' := 135) (lv' := [(4, .int (nI bv)), (3, .int (nI n)), (2, .int (nI dp)), (0, .ref 57), (1, .int ty)]) (st' := [.int 6, .int (nI w)]) (S' := stt (up2 σ 57 33 (nI q)) τ) (kc' := 0) (ks' := 0) rfl ⟨trivial, trivial⟩ ?_
            refine R_icmp ck_97_135 (fun (c_135 : ¬ (nI w) = 6) => ?_) (fun (c_135 : ¬ ¬ (nI w) = 6) => ?_)
            · have c_135 : ¬ w = 6 := fun zq => c_135 ((nI_eq (a := w) (b := 6) (by omega) (by omega)).mpr zq)
              refine R_seg sg_97_150 sk_97_150 (pc' := 156) (lv' := [(4, .int (nI bv)), (3, .int (nI n)), (2, .int (nI dp)), (0, .ref 57), (1, .int ty)]) (st' := [.int (nI n), .ref 87, .int 4]) (S' := stt (up2 σ 57 33 (nI q)) τ) (kc' := 0) (ks' := 0) rfl ⟨trivial, trivial, rfl, trivial, trivial⟩ ?_
              refine R_iald ca_97_156 (j := n) rfl rfl (by omega) ?_
              show RU_97 (d + 2) (0, 0) Post 157 ([(4, .int (nI bv)), (3, .int (nI n)), (2, .int (nI dp)), (0, .ref 57), (1, .int ty)]) ([.int (σ 87 n), .int 4]) (stt (up2 σ 57 33 (nI q)) τ) 0 0
              rw [ht]
              refine R_seg sg_97_157 sk_97_157 (pc' := 175) (lv' := [(5, .int (((4 * (nI t)) + (nI bv)) - 48)), (4, .int (nI bv)), (3, .int (nI n)), (2, .int (nI dp)), (0, .ref 57), (1, .int ty)]) (st' := [.int (nI n), .ref 89, .int (6 * (nI n))]) (S' := stt (up2 σ 57 33 (nI q)) τ) (kc' := 0) (ks' := 0) rfl ⟨trivial, trivial, trivial, trivial, trivial, (by decide), trivial, trivial, trivial, trivial, rfl, trivial, trivial⟩ ?_
              rw [show (4 * nI t + nI bv) - 48 = nI (t * 4 + (bv - 48)) from idx48 (by omega)]
              refine R_iald ca_97_175 (j := n) rfl rfl (by omega) ?_
              show RU_97 (d + 2) (0, 0) Post 176 ([(5, .int (nI (t * 4 + (bv - 48)))), (4, .int (nI bv)), (3, .int (nI n)), (2, .int (nI dp)), (0, .ref 57), (1, .int ty)]) ([.int (σ 89 n), .int (6 * (nI n))]) (stt (up2 σ 57 33 (nI q)) τ) 0 0
              rw [hw]
              refine R_seg sg_97_176 sk_97_176 (pc' := 190) (lv' := [(6, .int ((6 * (nI n)) + (nI w))), (5, .int (nI (t * 4 + (bv - 48)))), (4, .int (nI bv)), (3, .int (nI n)), (2, .int (nI dp)), (0, .ref 57), (1, .int ty)]) (st' := [.int ((nI bv) - 48), .int ((6 * (nI n)) + (nI w)), .ref 90]) (S' := stt (up2 σ 57 33 (nI q)) τ) (kc' := 0) (ks' := 0) rfl ⟨trivial, (by decide), trivial, rfl, trivial, trivial, trivial, trivial, trivial⟩ ?_
              rw [show 6 * nI n + nI w = nI (n * 6 + w) from by first | (simp only [nl_0, nl_1, nl_2, nl_3, nl_4, nl_5, nl_6, nl_8, nl_20, nl_31, nl_32, pk_mul, nI_add]; done) | (simp only [nl_0, nl_1, nl_2, nl_3, nl_4, nl_5, nl_6, nl_8, nl_20, nl_31, nl_32, pk_mul, nI_add]; congr 1; omega)]
              rw [show nI bv - 48 = nI (bv - 48) from pk_sub (b := 48) (by omega)]
              refine R_iast ca_97_190 (j := n * 6 + w) rfl rfl (by omega) ?_
              refine R_seg sg_97_191 sk_97_191 (pc' := 198) (lv' := [(6, .int (nI (n * 6 + w))), (5, .int (nI (t * 4 + (bv - 48)))), (4, .int (nI bv)), (3, .int (nI n)), (2, .int (nI dp)), (0, .ref 57), (1, .int ty)]) (st' := [.int (-1), .int (nI (n * 6 + w)), .ref 91]) (S' := stt (up2 (up2 σ 57 33 (nI q)) 90 (n * 6 + w) (nI (bv - 48))) τ) (kc' := 0) (ks' := 0) rfl ⟨trivial, rfl, trivial, trivial, trivial⟩ ?_
              refine R_iast ca_97_198 (j := n * 6 + w) rfl rfl (by omega) ?_
              refine R_seg sg_97_199 sk_97_199 (pc' := 205) (lv' := [(6, .int (nI (n * 6 + w))), (5, .int (nI (t * 4 + (bv - 48)))), (4, .int (nI bv)), (3, .int (nI n)), (2, .int (nI dp)), (0, .ref 57), (1, .int ty)]) (st' := [.int (nI n), .ref 89, .int (nI n), .ref 89]) (S' := stt (up2 (up2 (up2 σ 57 33 (nI q)) 90 (n * 6 + w) (nI (bv - 48))) 91 (n * 6 + w) (-1)) τ) (kc' := 0) (ks' := 0) rfl ⟨trivial, rfl, trivial, ⟨rfl, rfl⟩, trivial⟩ ?_
              refine R_iald ca_97_205 (j := n) rfl rfl (by omega) ?_
              show RU_97 (d + 2) (0, 0) Post 206 ([(6, .int (nI (n * 6 + w))), (5, .int (nI (t * 4 + (bv - 48)))), (4, .int (nI bv)), (3, .int (nI n)), (2, .int (nI dp)), (0, .ref 57), (1, .int ty)]) ([.int (σ 89 n), .int (nI n), .ref 89]) (stt (up2 (up2 (up2 σ 57 33 (nI q)) 90 (n * 6 + w) (nI (bv - 48))) 91 (n * 6 + w) (-1)) τ) 0 0
              rw [hw]
              refine R_seg sg_97_206 sk_97_206 (pc' := 208) (lv' := [(6, .int (nI (n * 6 + w))), (5, .int (nI (t * 4 + (bv - 48)))), (4, .int (nI bv)), (3, .int (nI n)), (2, .int (nI dp)), (0, .ref 57), (1, .int ty)]) (st' := [.int ((nI w) + 1), .int (nI n), .ref 89]) (S' := stt (up2 (up2 (up2 σ 57 33 (nI q)) 90 (n * 6 + w) (nI (bv - 48))) 91 (n * 6 + w) (-1)) τ) (kc' := 0) (ks' := 0) rfl ⟨trivial, trivial, trivial⟩ ?_
              refine R_iast ca_97_208 (j := n) rfl rfl (by omega) ?_
              refine R_seg sg_97_209 sk_97_209 (pc' := 225) (lv' := [(6, .int (nI (n * 6 + w))), (5, .int (nI (t * 4 + (bv - 48)))), (4, .int (nI bv)), (3, .int (nI n)), (2, .int (nI dp)), (0, .ref 57), (1, .int ty)]) (st' := [.int (nI (t * 4 + (bv - 48))), .ref 72]) (S' := stt (up2 (up2 (up2 (up2 (up2 σ 57 33 (nI q)) 90 (n * 6 + w) (nI (bv - 48))) 91 (n * 6 + w) (-1)) 89 n ((nI w) + 1)) 57 33 ((nI q) + 1)) τ) (kc' := 0) (ks' := 0) rfl ⟨trivial, rfl, rfl, trivial, trivial, ⟨rfl, ⟨rfl, rfl⟩⟩, trivial, rfl, trivial, trivial⟩ ?_
              refine R_iald ca_97_225 (j := t * 4 + (bv - 48)) rfl rfl (by omega) ?_
              show RU_97 (d + 2) (0, 0) Post 226 ([(6, .int (nI (n * 6 + w))), (5, .int (nI (t * 4 + (bv - 48)))), (4, .int (nI bv)), (3, .int (nI n)), (2, .int (nI dp)), (0, .ref 57), (1, .int ty)]) ([.int (σ 72 (t * 4 + (bv - 48)))]) (stt (up2 (up2 (up2 (up2 (up2 σ 57 33 (nI q)) 90 (n * 6 + w) (nI (bv - 48))) 91 (n * 6 + w) (-1)) 89 n ((nI w) + 1)) 57 33 ((nI q) + 1)) τ) 0 0
              rw [hkd (by omega) (by omega)]
              refine R_if ck_97_226 (fun (c_226 : (nI kd) = 0) => ?_) (fun (c_226 : ¬ (nI kd) = 0) => ?_)
              · have c_226 : kd = 0 := (nI_eq (a := kd) (b := 0) (by omega) (by omega)).mp c_226
                refine R_goto ck_97_306 ?_
                refine Runs.lv (lv := [(2, .int (nI dp)), (0, .ref 57), (1, .int ty)]) ?_ _ (lvS_l (show ([2, 0, 1] : List Nat).Nodup from by decide) (by intro q hq; simp only [List.mem_cons, List.not_mem_nil, or_false] at hq; rcases hq with rfl | rfl | rfl <;> rfl))
                exact hN (by omega) (by omega) (by omega) (by omega)
              · have c_226 : ¬ kd = 0 := fun zq => c_226 ((nI_eq (a := kd) (b := 0) (by omega) (by omega)).mpr zq)
                refine R_seg sg_97_229 sk_97_229 (pc' := 230) (lv' := [(6, .int (nI (n * 6 + w))), (5, .int (nI (t * 4 + (bv - 48)))), (4, .int (nI bv)), (3, .int (nI n)), (2, .int (nI dp)), (0, .ref 57), (1, .int ty)]) (st' := [.ref 57]) (S' := stt (up2 (up2 (up2 (up2 (up2 σ 57 33 (nI q)) 90 (n * 6 + w) (nI (bv - 48))) 91 (n * 6 + w) (-1)) 89 n ((nI w) + 1)) 57 33 ((nI q) + 1)) τ) (kc' := 0) (ks' := 0) rfl ⟨trivial, trivial⟩ ?_
                refine R_virt ck_97_230 57 [] 0 0 (r := []) rfl rfl rfl (Nat.le_of_ble_eq_true rfl) (Nat.le_refl _) (Nat.le_refl _) ?_
                refine x_98 (d := d + 1) (σ := up2 (up2 (up2 (up2 (up2 σ 57 33 (nI q)) 90 (n * 6 + w) (nI (bv - 48))) 91 (n * 6 + w) (-1)) 89 n ((nI w) + 1)) 57 33 ((nI q) + 1)) (p := q + 1) (q := q2) (nI_1 q) hlen hlen2 (hq12 (by omega)) hq22 (hbl2 (by omega)) hne2 (fun p_1 => ?_) (fun p_1 => ?_)
                · show RU_97 (d + 2) (0, 0) Post 233 ([(6, .int (nI (n * 6 + w))), (5, .int (nI (t * 4 + (bv - 48)))), (4, .int (nI bv)), (3, .int (nI n)), (2, .int (nI dp)), (0, .ref 57), (1, .int ty)]) ([.int (-1)]) (stt (up2 (up2 (up2 (up2 (up2 (up2 σ 57 33 (nI q)) 90 (n * 6 + w) (nI (bv - 48))) 91 (n * 6 + w) (-1)) 89 n ((nI w) + 1)) 57 33 ((nI q) + 1)) 57 33 (nI q2)) τ) 0 0
                  refine R_seg sg_97_233 sk_97_233 (pc' := 235) (lv' := [(6, .int (nI (n * 6 + w))), (5, .int (nI (t * 4 + (bv - 48)))), (4, .int (nI bv)), (3, .int (nI n)), (2, .int (nI dp)), (0, .ref 57), (1, .int ty)]) (st' := [.int 123, .int (-1)]) (S' := stt (up2 (up2 (up2 (up2 (up2 (up2 σ 57 33 (nI q)) 90 (n * 6 + w) (nI (bv - 48))) 91 (n * 6 + w) (-1)) 89 n ((nI w) + 1)) 57 33 ((nI q) + 1)) 57 33 (nI q2)) τ) (kc' := 0) (ks' := 0) rfl ⟨trivial, trivial⟩ ?_
                  refine R_icmp ck_97_235 (fun c => absurd c (show ¬ (-1 : Int32) = 123 from by decide)) (fun _ => ?_)
                  refine R_seg sg_97_238 sk_97_238 (pc' := 244) (lv' := [(6, .int (nI (n * 6 + w))), (5, .int (nI (t * 4 + (bv - 48)))), (4, .int (nI bv)), (3, .int (nI n)), (2, .int (nI dp)), (0, .ref 57), (1, .int ty)]) (st' := [.int (nI q2), .int 0, .ref 57]) (S' := stt (up2 (up2 (up2 (up2 (up2 (up2 σ 57 33 (nI q)) 90 (n * 6 + w) (nI (bv - 48))) 91 (n * 6 + w) (-1)) 89 n ((nI w) + 1)) 57 33 ((nI q) + 1)) 57 33 (nI q2)) τ) (kc' := 0) (ks' := 0) rfl ⟨trivial, trivial, trivial, rfl, trivial⟩ ?_
                  refine R_virt ck_97_244 57 [.int 0, .int (nI q2)] 0 0 (r := []) rfl rfl rfl (Nat.le_of_ble_eq_true rfl) (Nat.le_refl _) (Nat.le_refl _) ?_
                  refine x_99 (d := d + 1) (fun _ => ?_) (fun zq => absurd hft zq)
                  rw [show ((1 : Int32) + 4 * (nI q2)) + 0 = nI (1 + 4 * q2 + 0) from by simp only [nl_0, nl_1, nl_2, nl_3, nl_4, nl_5, nl_6, nl_8, nl_20, nl_31, nl_32, pk_mul, nI_add]]
                  show RU_97 (d + 2) (0, 0) Post 247 ([(6, .int (nI (n * 6 + w))), (5, .int (nI (t * 4 + (bv - 48)))), (4, .int (nI bv)), (3, .int (nI n)), (2, .int (nI dp)), (0, .ref 57), (1, .int ty)]) ([]) (stt (up2 (up2 (up2 (up2 (up2 (up2 (up2 σ 57 33 (nI q)) 90 (n * 6 + w) (nI (bv - 48))) 91 (n * 6 + w) (-1)) 89 n ((nI w) + 1)) 57 33 ((nI q) + 1)) 57 33 (nI q2)) 57 34 (nI (1 + 4 * q2 + 0))) τ) 0 0
                  refine R_goto ck_97_247 ?_
                  refine R_goto ck_97_306 ?_
                  refine Runs.lv (lv := [(2, .int (nI dp)), (0, .ref 57), (1, .int ty)]) ?_ _ (lvS_l (show ([2, 0, 1] : List Nat).Nodup from by decide) (by intro q hq; simp only [List.mem_cons, List.not_mem_nil, or_false] at hq; rcases hq with rfl | rfl | rfl <;> rfl))
                  refine s_97f (fun zq => ?_) ?_
                  · exact nI_ne0 (by omega) (by omega) zq
                  · exact hF3 (by omega) (by omega) (by omega) (by omega) (by omega)
                · show RU_97 (d + 2) (0, 0) Post 233 ([(6, .int (nI (n * 6 + w))), (5, .int (nI (t * 4 + (bv - 48)))), (4, .int (nI bv)), (3, .int (nI n)), (2, .int (nI dp)), (0, .ref 57), (1, .int ty)]) ([.int ((σ 86 q2) &&& 255)]) (stt (up2 (up2 (up2 (up2 (up2 (up2 σ 57 33 (nI q)) 90 (n * 6 + w) (nI (bv - 48))) 91 (n * 6 + w) (-1)) 89 n ((nI w) + 1)) 57 33 ((nI q) + 1)) 57 33 (nI q2)) τ) 0 0
                  refine R_seg sg_97_233 sk_97_233 (pc' := 235) (lv' := [(6, .int (nI (n * 6 + w))), (5, .int (nI (t * 4 + (bv - 48)))), (4, .int (nI bv)), (3, .int (nI n)), (2, .int (nI dp)), (0, .ref 57), (1, .int ty)]) (st' := [.int 123, .int ((σ 86 q2) &&& 255)]) (S' := stt (up2 (up2 (up2 (up2 (up2 (up2 σ 57 33 (nI q)) 90 (n * 6 + w) (nI (bv - 48))) 91 (n * 6 + w) (-1)) 89 n ((nI w) + 1)) 57 33 ((nI q) + 1)) 57 33 (nI q2)) τ) (kc' := 0) (ks' := 0) rfl ⟨trivial, trivial⟩ ?_
                  rw [hb2 (by omega)]
                  refine R_icmp ck_97_235 (fun (c_235 : (nI b2) = 123) => ?_) (fun (c_235 : ¬ (nI b2) = 123) => ?_)
                  · have c_235 : b2 = 123 := (nI_eq (a := b2) (b := 123) (by omega) (by omega)).mp c_235
                    refine R_seg sg_97_250 sk_97_250 (pc' := 260) (lv' := [(6, .int (nI (n * 6 + w))), (5, .int (nI (t * 4 + (bv - 48)))), (4, .int (nI bv)), (3, .int (nI n)), (2, .int (nI dp)), (0, .ref 57), (1, .int ty)]) (st' := [.int (σ 57 35), .int (nI (n * 6 + w)), .ref 91]) (S' := stt (up2 (up2 (up2 (up2 (up2 (up2 σ 57 33 (nI q)) 90 (n * 6 + w) (nI (bv - 48))) 91 (n * 6 + w) (-1)) 89 n ((nI w) + 1)) 57 33 ((nI q) + 1)) 57 33 (nI q2)) τ) (kc' := 0) (ks' := 0) rfl ⟨trivial, rfl, trivial, trivial, rfl, trivial⟩ ?_
                    rw [hnd]
                    refine R_iast ca_97_260 (j := n * 6 + w) rfl rfl (by omega) ?_
                    refine R_seg sg_97_261 sk_97_261 (pc' := 268) (lv' := [(6, .int (nI (n * 6 + w))), (5, .int (nI (t * 4 + (bv - 48)))), (4, .int (nI bv)), (3, .int (nI n)), (2, .int (nI dp)), (0, .ref 57), (1, .int ty)]) (st' := [.int (nI (t * 4 + (bv - 48))), .ref 73, .ref 57]) (S' := stt (up2 (up2 (up2 (up2 (up2 (up2 (up2 σ 57 33 (nI q)) 90 (n * 6 + w) (nI (bv - 48))) 91 (n * 6 + w) (-1)) 89 n ((nI w) + 1)) 57 33 ((nI q) + 1)) 57 33 (nI q2)) 91 (n * 6 + w) (nI nd)) τ) (kc' := 0) (ks' := 0) rfl ⟨trivial, trivial, rfl, trivial, trivial⟩ ?_
                    refine R_iald ca_97_268 (j := t * 4 + (bv - 48)) rfl rfl (by omega) ?_
                    refine R_seg sg_97_269 sk_97_269 (pc' := 274) (lv' := [(6, .int (nI (n * 6 + w))), (5, .int (nI (t * 4 + (bv - 48)))), (4, .int (nI bv)), (3, .int (nI n)), (2, .int (nI dp)), (0, .ref 57), (1, .int ty)]) (st' := [.int (nI n), .ref 92, .int (σ 73 (t * 4 + (bv - 48))), .ref 57]) (S' := stt (up2 (up2 (up2 (up2 (up2 (up2 (up2 σ 57 33 (nI q)) 90 (n * 6 + w) (nI (bv - 48))) 91 (n * 6 + w) (-1)) 89 n ((nI w) + 1)) 57 33 ((nI q) + 1)) 57 33 (nI q2)) 91 (n * 6 + w) (nI nd)) τ) (kc' := 0) (ks' := 0) rfl ⟨trivial, rfl, trivial, trivial⟩ ?_
                    refine R_lald ca_97_274 (j := n) rfl rfl (by omega) ?_
                    refine R_seg sg_97_275 sk_97_275 (pc' := 281) (lv' := [(6, .int (nI (n * 6 + w))), (5, .int (nI (t * 4 + (bv - 48)))), (4, .int (nI bv)), (3, .int (nI n)), (2, .int (nI dp)), (0, .ref 57), (1, .int ty)]) (st' := [.int (nI (t * 4 + (bv - 48))), .ref 72, .long (τ 92 n), .int (σ 73 (t * 4 + (bv - 48))), .ref 57]) (S' := stt (up2 (up2 (up2 (up2 (up2 (up2 (up2 σ 57 33 (nI q)) 90 (n * 6 + w) (nI (bv - 48))) 91 (n * 6 + w) (-1)) 89 n ((nI w) + 1)) 57 33 ((nI q) + 1)) 57 33 (nI q2)) 91 (n * 6 + w) (nI nd)) τ) (kc' := 0) (ks' := 0) rfl ⟨trivial, rfl, trivial, trivial⟩ ?_
                    refine R_iald ca_97_281 (j := t * 4 + (bv - 48)) rfl rfl (by omega) ?_
                    show RU_97 (d + 2) (0, 0) Post 282 ([(6, .int (nI (n * 6 + w))), (5, .int (nI (t * 4 + (bv - 48)))), (4, .int (nI bv)), (3, .int (nI n)), (2, .int (nI dp)), (0, .ref 57), (1, .int ty)]) ([.int (σ 72 (t * 4 + (bv - 48))), .long (τ 92 n), .int (σ 73 (t * 4 + (bv - 48))), .ref 57]) (stt (up2 (up2 (up2 (up2 (up2 (up2 (up2 σ 57 33 (nI q)) 90 (n * 6 + w) (nI (bv - 48))) 91 (n * 6 + w) (-1)) 89 n ((nI w) + 1)) 57 33 ((nI q) + 1)) 57 33 (nI q2)) 91 (n * 6 + w) (nI nd)) τ) 0 0
                    rw [hkd (by omega) (by omega)]
                    refine R_seg sg_97_282 sk_97_282 (pc' := 283) (lv' := [(6, .int (nI (n * 6 + w))), (5, .int (nI (t * 4 + (bv - 48)))), (4, .int (nI bv)), (3, .int (nI n)), (2, .int (nI dp)), (0, .ref 57), (1, .int ty)]) (st' := [.int 2, .int (nI kd), .long (τ 92 n), .int (σ 73 (t * 4 + (bv - 48))), .ref 57]) (S' := stt (up2 (up2 (up2 (up2 (up2 (up2 (up2 σ 57 33 (nI q)) 90 (n * 6 + w) (nI (bv - 48))) 91 (n * 6 + w) (-1)) 89 n ((nI w) + 1)) 57 33 ((nI q) + 1)) 57 33 (nI q2)) 91 (n * 6 + w) (nI nd)) τ) (kc' := 0) (ks' := 0) rfl ⟨trivial, trivial⟩ ?_
                    refine R_icmp ck_97_283 (fun (c_283 : ¬ (nI kd) = 2) => ?_) (fun (c_283 : ¬ ¬ (nI kd) = 2) => ?_)
                    · have c_283 : ¬ kd = 2 := fun zq => c_283 ((nI_eq (a := kd) (b := 2) (by omega) (by omega)).mpr zq)
                      refine R_seg sg_97_296 sk_97_296 (pc' := 297) (lv' := [(6, .int (nI (n * 6 + w))), (5, .int (nI (t * 4 + (bv - 48)))), (4, .int (nI bv)), (3, .int (nI n)), (2, .int (nI dp)), (0, .ref 57), (1, .int ty)]) (st' := [.int 1, .long (τ 92 n), .int (σ 73 (t * 4 + (bv - 48))), .ref 57]) (S' := stt (up2 (up2 (up2 (up2 (up2 (up2 (up2 σ 57 33 (nI q)) 90 (n * 6 + w) (nI (bv - 48))) 91 (n * 6 + w) (-1)) 89 n ((nI w) + 1)) 57 33 ((nI q) + 1)) 57 33 (nI q2)) 91 (n * 6 + w) (nI nd)) τ) (kc' := 0) (ks' := 0) rfl ⟨trivial, trivial⟩ ?_
                      refine R_seg sg_97_297 sk_97_297 (pc' := 300) (lv' := [(6, .int (nI (n * 6 + w))), (5, .int (nI (t * 4 + (bv - 48)))), (4, .int (nI bv)), (3, .int (nI n)), (2, .int (nI dp)), (0, .ref 57), (1, .int ty)]) (st' := [.int (nI dp), .long ((τ 92 n) * ((1 : Int32).toInt64)), .int (σ 73 (t * 4 + (bv - 48))), .ref 57]) (S' := stt (up2 (up2 (up2 (up2 (up2 (up2 (up2 σ 57 33 (nI q)) 90 (n * 6 + w) (nI (bv - 48))) 91 (n * 6 + w) (-1)) 89 n ((nI w) + 1)) 57 33 ((nI q) + 1)) 57 33 (nI q2)) 91 (n * 6 + w) (nI nd)) τ) (kc' := 0) (ks' := 0) rfl ⟨trivial, trivial, trivial, trivial⟩ ?_
                      refine R_virt ck_97_300 57 [.int (σ 73 (t * 4 + (bv - 48))), .long ((τ 92 n) * ((1 : Int32).toInt64)), .int (nI dp)] 0 0 (r := []) rfl rfl rfl (Nat.le_of_ble_eq_true rfl) (Nat.le_refl _) (Nat.le_refl _) ?_
                      refine x_100 (d := d) (σ := up2 (up2 (up2 (up2 (up2 (up2 (up2 σ 57 33 (nI q)) 90 (n * 6 + w) (nI (bv - 48))) 91 (n * 6 + w) (-1)) 89 n ((nI w) + 1)) 57 33 ((nI q) + 1)) 57 33 (nI q2)) 91 (n * 6 + w) (nI nd)) (p := q2) hnd (by omega) (by omega) rfl (by omega) hft (fun r_f => ?_) (fun r_1 r_2 => ?_)
                      · show RU_97 (d + 2) (0, 0) Post 303 ([(6, .int (nI (n * 6 + w))), (5, .int (nI (t * 4 + (bv - 48)))), (4, .int (nI bv)), (3, .int (nI n)), (2, .int (nI dp)), (0, .ref 57), (1, .int ty)]) ([]) (stt (up2 (up2 (up2 (up2 (up2 (up2 (up2 (up2 σ 57 33 (nI q)) 90 (n * 6 + w) (nI (bv - 48))) 91 (n * 6 + w) (-1)) 89 n ((nI w) + 1)) 57 33 ((nI q) + 1)) 57 33 (nI q2)) 91 (n * 6 + w) (nI nd)) 57 34 (nI (1 + 4 * q2 + 1))) τ) 0 0
                        refine R_seg sg_97_303 sk_97_303 (pc' := 306) (lv' := [(2, .int ((nI dp) + 1)), (6, .int (nI (n * 6 + w))), (5, .int (nI (t * 4 + (bv - 48)))), (4, .int (nI bv)), (3, .int (nI n)), (0, .ref 57), (1, .int ty)]) (st' := []) (S' := stt (up2 (up2 (up2 (up2 (up2 (up2 (up2 (up2 σ 57 33 (nI q)) 90 (n * 6 + w) (nI (bv - 48))) 91 (n * 6 + w) (-1)) 89 n ((nI w) + 1)) 57 33 ((nI q) + 1)) 57 33 (nI q2)) 91 (n * 6 + w) (nI nd)) 57 34 (nI (1 + 4 * q2 + 1))) τ) (kc' := 0) (ks' := 0) rfl ⟨(by decide), trivial⟩ ?_
                        refine R_goto ck_97_306 ?_
                        refine Runs.lv (lv := [(2, .int ((nI dp) + 1)), (0, .ref 57), (1, .int ty)]) ?_ _ (lvS_l (show ([2, 0, 1] : List Nat).Nodup from by decide) (by intro q hq; simp only [List.mem_cons, List.not_mem_nil, or_false] at hq; rcases hq with rfl | rfl | rfl <;> rfl))
                        refine s_97f (fun zq => ?_) ?_
                        · exact nI_ne0 (by omega) (by omega) zq
                        · exact hF4 (by omega) (by omega) (by omega) (by omega) (by omega) (by omega)
                      · show RU_97 (d + 2) (0, 0) Post 303 ([(6, .int (nI (n * 6 + w))), (5, .int (nI (t * 4 + (bv - 48)))), (4, .int (nI bv)), (3, .int (nI n)), (2, .int (nI dp)), (0, .ref 57), (1, .int ty)]) ([]) (stt (m_beg (up2 (up2 (up2 (up2 (up2 (up2 (up2 σ 57 33 (nI q)) 90 (n * 6 + w) (nI (bv - 48))) 91 (n * 6 + w) (-1)) 89 n ((nI w) + 1)) 57 33 ((nI q) + 1)) 57 33 (nI q2)) 91 (n * 6 + w) (nI nd)) nd dp q2 (σ 73 (t * 4 + (bv - 48)))) (up2 τ 92 nd ((τ 92 n) * ((1 : Int32).toInt64)))) 0 0
                        refine R_seg sg_97_303 sk_97_303 (pc' := 306) (lv' := [(2, .int ((nI dp) + 1)), (6, .int (nI (n * 6 + w))), (5, .int (nI (t * 4 + (bv - 48)))), (4, .int (nI bv)), (3, .int (nI n)), (0, .ref 57), (1, .int ty)]) (st' := []) (S' := stt (m_beg (up2 (up2 (up2 (up2 (up2 (up2 (up2 σ 57 33 (nI q)) 90 (n * 6 + w) (nI (bv - 48))) 91 (n * 6 + w) (-1)) 89 n ((nI w) + 1)) 57 33 ((nI q) + 1)) 57 33 (nI q2)) 91 (n * 6 + w) (nI nd)) nd dp q2 (σ 73 (t * 4 + (bv - 48)))) (up2 τ 92 nd ((τ 92 n) * ((1 : Int32).toInt64)))) (kc' := 0) (ks' := 0) rfl ⟨(by decide), trivial⟩ ?_
                        refine R_goto ck_97_306 ?_
                        refine Runs.lv (lv := [(2, .int ((nI dp) + 1)), (0, .ref 57), (1, .int ty)]) ?_ _ (lvS_l (show ([2, 0, 1] : List Nat).Nodup from by decide) (by intro q hq; simp only [List.mem_cons, List.not_mem_nil, or_false] at hq; rcases hq with rfl | rfl | rfl <;> rfl))
                        exact hBR (by omega) (by omega) (by omega) (by omega) (by omega) (by omega) (by omega) (by omega)
                    · have c_283 : kd = 2 := (nI_eq (a := kd) (b := 2) (by omega) (by omega)).mp (Classical.not_not.mp c_283)
                      refine R_seg sg_97_286 sk_97_286 (pc' := 292) (lv' := [(6, .int (nI (n * 6 + w))), (5, .int (nI (t * 4 + (bv - 48)))), (4, .int (nI bv)), (3, .int (nI n)), (2, .int (nI dp)), (0, .ref 57), (1, .int ty)]) (st' := [.int (nI (t * 4 + (bv - 48))), .ref 74, .long (τ 92 n), .int (σ 73 (t * 4 + (bv - 48))), .ref 57]) (S' := stt (up2 (up2 (up2 (up2 (up2 (up2 (up2 σ 57 33 (nI q)) 90 (n * 6 + w) (nI (bv - 48))) 91 (n * 6 + w) (-1)) 89 n ((nI w) + 1)) 57 33 ((nI q) + 1)) 57 33 (nI q2)) 91 (n * 6 + w) (nI nd)) τ) (kc' := 0) (ks' := 0) rfl ⟨trivial, rfl, trivial, trivial⟩ ?_
                      refine R_iald ca_97_292 (j := t * 4 + (bv - 48)) rfl rfl (by omega) ?_
                      refine R_goto ck_97_293 ?_
                      refine R_seg sg_97_297 sk_97_297 (pc' := 300) (lv' := [(6, .int (nI (n * 6 + w))), (5, .int (nI (t * 4 + (bv - 48)))), (4, .int (nI bv)), (3, .int (nI n)), (2, .int (nI dp)), (0, .ref 57), (1, .int ty)]) (st' := [.int (nI dp), .long ((τ 92 n) * ((σ 74 (t * 4 + (bv - 48))).toInt64)), .int (σ 73 (t * 4 + (bv - 48))), .ref 57]) (S' := stt (up2 (up2 (up2 (up2 (up2 (up2 (up2 σ 57 33 (nI q)) 90 (n * 6 + w) (nI (bv - 48))) 91 (n * 6 + w) (-1)) 89 n ((nI w) + 1)) 57 33 ((nI q) + 1)) 57 33 (nI q2)) 91 (n * 6 + w) (nI nd)) τ) (kc' := 0) (ks' := 0) rfl ⟨trivial, trivial, trivial, trivial⟩ ?_
                      refine R_virt ck_97_300 57 [.int (σ 73 (t * 4 + (bv - 48))), .long ((τ 92 n) * ((σ 74 (t * 4 + (bv - 48))).toInt64)), .int (nI dp)] 0 0 (r := []) rfl rfl rfl (Nat.le_of_ble_eq_true rfl) (Nat.le_refl _) (Nat.le_refl _) ?_
                      refine x_100 (d := d) (σ := up2 (up2 (up2 (up2 (up2 (up2 (up2 σ 57 33 (nI q)) 90 (n * 6 + w) (nI (bv - 48))) 91 (n * 6 + w) (-1)) 89 n ((nI w) + 1)) 57 33 ((nI q) + 1)) 57 33 (nI q2)) 91 (n * 6 + w) (nI nd)) (p := q2) hnd (by omega) (by omega) rfl (by omega) hft (fun r_f => ?_) (fun r_1 r_2 => ?_)
                      · show RU_97 (d + 2) (0, 0) Post 303 ([(6, .int (nI (n * 6 + w))), (5, .int (nI (t * 4 + (bv - 48)))), (4, .int (nI bv)), (3, .int (nI n)), (2, .int (nI dp)), (0, .ref 57), (1, .int ty)]) ([]) (stt (up2 (up2 (up2 (up2 (up2 (up2 (up2 (up2 σ 57 33 (nI q)) 90 (n * 6 + w) (nI (bv - 48))) 91 (n * 6 + w) (-1)) 89 n ((nI w) + 1)) 57 33 ((nI q) + 1)) 57 33 (nI q2)) 91 (n * 6 + w) (nI nd)) 57 34 (nI (1 + 4 * q2 + 1))) τ) 0 0
                        refine R_seg sg_97_303 sk_97_303 (pc' := 306) (lv' := [(2, .int ((nI dp) + 1)), (6, .int (nI (n * 6 + w))), (5, .int (nI (t * 4 + (bv - 48)))), (4, .int (nI bv)), (3, .int (nI n)), (0, .ref 57), (1, .int ty)]) (st' := []) (S' := stt (up2 (up2 (up2 (up2 (up2 (up2 (up2 (up2 σ 57 33 (nI q)) 90 (n * 6 + w) (nI (bv - 48))) 91 (n * 6 + w) (-1)) 89 n ((nI w) + 1)) 57 33 ((nI q) + 1)) 57 33 (nI q2)) 91 (n * 6 + w) (nI nd)) 57 34 (nI (1 + 4 * q2 + 1))) τ) (kc' := 0) (ks' := 0) rfl ⟨(by decide), trivial⟩ ?_
                        refine R_goto ck_97_306 ?_
                        refine Runs.lv (lv := [(2, .int ((nI dp) + 1)), (0, .ref 57), (1, .int ty)]) ?_ _ (lvS_l (show ([2, 0, 1] : List Nat).Nodup from by decide) (by intro q hq; simp only [List.mem_cons, List.not_mem_nil, or_false] at hq; rcases hq with rfl | rfl | rfl <;> rfl))
                        refine s_97f (fun zq => ?_) ?_
                        · exact nI_ne0 (by omega) (by omega) zq
                        · exact hF4 (by omega) (by omega) (by omega) (by omega) (by omega) (by omega)
                      · show RU_97 (d + 2) (0, 0) Post 303 ([(6, .int (nI (n * 6 + w))), (5, .int (nI (t * 4 + (bv - 48)))), (4, .int (nI bv)), (3, .int (nI n)), (2, .int (nI dp)), (0, .ref 57), (1, .int ty)]) ([]) (stt (m_beg (up2 (up2 (up2 (up2 (up2 (up2 (up2 σ 57 33 (nI q)) 90 (n * 6 + w) (nI (bv - 48))) 91 (n * 6 + w) (-1)) 89 n ((nI w) + 1)) 57 33 ((nI q) + 1)) 57 33 (nI q2)) 91 (n * 6 + w) (nI nd)) nd dp q2 (σ 73 (t * 4 + (bv - 48)))) (up2 τ 92 nd ((τ 92 n) * ((σ 74 (t * 4 + (bv - 48))).toInt64)))) 0 0
                        refine R_seg sg_97_303 sk_97_303 (pc' := 306) (lv' := [(2, .int ((nI dp) + 1)), (6, .int (nI (n * 6 + w))), (5, .int (nI (t * 4 + (bv - 48)))), (4, .int (nI bv)), (3, .int (nI n)), (0, .ref 57), (1, .int ty)]) (st' := []) (S' := stt (m_beg (up2 (up2 (up2 (up2 (up2 (up2 (up2 σ 57 33 (nI q)) 90 (n * 6 + w) (nI (bv - 48))) 91 (n * 6 + w) (-1)) 89 n ((nI w) + 1)) 57 33 ((nI q) + 1)) 57 33 (nI q2)) 91 (n * 6 + w) (nI nd)) nd dp q2 (σ 73 (t * 4 + (bv - 48)))) (up2 τ 92 nd ((τ 92 n) * ((σ 74 (t * 4 + (bv - 48))).toInt64)))) (kc' := 0) (ks' := 0) rfl ⟨(by decide), trivial⟩ ?_
                        refine R_goto ck_97_306 ?_
                        refine Runs.lv (lv := [(2, .int ((nI dp) + 1)), (0, .ref 57), (1, .int ty)]) ?_ _ (lvS_l (show ([2, 0, 1] : List Nat).Nodup from by decide) (by intro q hq; simp only [List.mem_cons, List.not_mem_nil, or_false] at hq; rcases hq with rfl | rfl | rfl <;> rfl))
                        exact hBL (by omega) (by omega) (by omega) (by omega) (by omega) (by omega) (by omega) (by omega)
                  · have c_235 : ¬ b2 = 123 := fun zq => c_235 ((nI_eq (a := b2) (b := 123) (by omega) (by omega)).mpr zq)
                    refine R_seg sg_97_238 sk_97_238 (pc' := 244) (lv' := [(6, .int (nI (n * 6 + w))), (5, .int (nI (t * 4 + (bv - 48)))), (4, .int (nI bv)), (3, .int (nI n)), (2, .int (nI dp)), (0, .ref 57), (1, .int ty)]) (st' := [.int (nI q2), .int 0, .ref 57]) (S' := stt (up2 (up2 (up2 (up2 (up2 (up2 σ 57 33 (nI q)) 90 (n * 6 + w) (nI (bv - 48))) 91 (n * 6 + w) (-1)) 89 n ((nI w) + 1)) 57 33 ((nI q) + 1)) 57 33 (nI q2)) τ) (kc' := 0) (ks' := 0) rfl ⟨trivial, trivial, trivial, rfl, trivial⟩ ?_
                    refine R_virt ck_97_244 57 [.int 0, .int (nI q2)] 0 0 (r := []) rfl rfl rfl (Nat.le_of_ble_eq_true rfl) (Nat.le_refl _) (Nat.le_refl _) ?_
                    refine x_99 (d := d + 1) (fun _ => ?_) (fun zq => absurd hft zq)
                    rw [show ((1 : Int32) + 4 * (nI q2)) + 0 = nI (1 + 4 * q2 + 0) from by simp only [nl_0, nl_1, nl_2, nl_3, nl_4, nl_5, nl_6, nl_8, nl_20, nl_31, nl_32, pk_mul, nI_add]]
                    show RU_97 (d + 2) (0, 0) Post 247 ([(6, .int (nI (n * 6 + w))), (5, .int (nI (t * 4 + (bv - 48)))), (4, .int (nI bv)), (3, .int (nI n)), (2, .int (nI dp)), (0, .ref 57), (1, .int ty)]) ([]) (stt (up2 (up2 (up2 (up2 (up2 (up2 (up2 σ 57 33 (nI q)) 90 (n * 6 + w) (nI (bv - 48))) 91 (n * 6 + w) (-1)) 89 n ((nI w) + 1)) 57 33 ((nI q) + 1)) 57 33 (nI q2)) 57 34 (nI (1 + 4 * q2 + 0))) τ) 0 0
                    refine R_goto ck_97_247 ?_
                    refine R_goto ck_97_306 ?_
                    refine Runs.lv (lv := [(2, .int (nI dp)), (0, .ref 57), (1, .int ty)]) ?_ _ (lvS_l (show ([2, 0, 1] : List Nat).Nodup from by decide) (by intro q hq; simp only [List.mem_cons, List.not_mem_nil, or_false] at hq; rcases hq with rfl | rfl | rfl <;> rfl))
                    refine s_97f (fun zq => ?_) ?_
                    · exact nI_ne0 (by omega) (by omega) zq
                    · exact hF3 (by omega) (by omega) (by omega) (by omega) (by omega)
            · have c_135 : w = 6 := (nI_eq (a := w) (b := 6) (by omega) (by omega)).mp (Classical.not_not.mp c_135)
              refine R_seg sg_97_138 sk_97_138 (pc' := 144) (lv' := [(4, .int (nI bv)), (3, .int (nI n)), (2, .int (nI dp)), (0, .ref 57), (1, .int ty)]) (st' := [.int (nI q), .int 2, .ref 57]) (S' := stt (up2 σ 57 33 (nI q)) τ) (kc' := 0) (ks' := 0) rfl ⟨trivial, trivial, trivial, rfl, trivial⟩ ?_
              refine R_virt ck_97_144 57 [.int 2, .int (nI q)] 0 0 (r := []) rfl rfl rfl (Nat.le_of_ble_eq_true rfl) (Nat.le_refl _) (Nat.le_refl _) ?_
              refine x_99 (d := d + 1) (fun _ => ?_) (fun zq => absurd hft zq)
              rw [show ((1 : Int32) + 4 * (nI q)) + 2 = nI (1 + 4 * q + 2) from by simp only [nl_0, nl_1, nl_2, nl_3, nl_4, nl_5, nl_6, nl_8, nl_20, nl_31, nl_32, pk_mul, nI_add]]
              show RU_97 (d + 2) (0, 0) Post 147 ([(4, .int (nI bv)), (3, .int (nI n)), (2, .int (nI dp)), (0, .ref 57), (1, .int ty)]) ([]) (stt (up2 (up2 σ 57 33 (nI q)) 57 34 (nI (1 + 4 * q + 2))) τ) 0 0
              refine R_goto ck_97_147 ?_
              refine R_goto ck_97_306 ?_
              refine Runs.lv (lv := [(2, .int (nI dp)), (0, .ref 57), (1, .int ty)]) ?_ _ (lvS_l (show ([2, 0, 1] : List Nat).Nodup from by decide) (by intro q hq; simp only [List.mem_cons, List.not_mem_nil, or_false] at hq; rcases hq with rfl | rfl | rfl <;> rfl))
              refine s_97f (fun zq => ?_) ?_
              · exact nI_ne0 (by omega) (by omega) zq
              · exact hF2 (by omega) (by omega) (by omega)
          · have c_112 : 51 < bv := Nat.not_le.mp (fun zq => c_112 ((nI_leI (a := bv) (b := 51) (by omega) (by omega)).mpr zq))
            refine R_seg sg_97_115 sk_97_115 (pc' := 121) (lv' := [(4, .int (nI bv)), (3, .int (nI n)), (2, .int (nI dp)), (0, .ref 57), (1, .int ty)]) (st' := [.int (nI q), .int 0, .ref 57]) (S' := stt (up2 σ 57 33 (nI q)) τ) (kc' := 0) (ks' := 0) rfl ⟨trivial, trivial, trivial, rfl, trivial⟩ ?_
            refine R_virt ck_97_121 57 [.int 0, .int (nI q)] 0 0 (r := []) rfl rfl rfl (Nat.le_of_ble_eq_true rfl) (Nat.le_refl _) (Nat.le_refl _) ?_
            refine x_99 (d := d + 1) (fun _ => ?_) (fun zq => absurd hft zq)
            rw [show ((1 : Int32) + 4 * (nI q)) + 0 = nI (1 + 4 * q + 0) from by simp only [nl_0, nl_1, nl_2, nl_3, nl_4, nl_5, nl_6, nl_8, nl_20, nl_31, nl_32, pk_mul, nI_add]]
            show RU_97 (d + 2) (0, 0) Post 124 ([(4, .int (nI bv)), (3, .int (nI n)), (2, .int (nI dp)), (0, .ref 57), (1, .int ty)]) ([]) (stt (up2 (up2 σ 57 33 (nI q)) 57 34 (nI (1 + 4 * q + 0))) τ) 0 0
            refine R_goto ck_97_124 ?_
            refine R_goto ck_97_306 ?_
            refine Runs.lv (lv := [(2, .int (nI dp)), (0, .ref 57), (1, .int ty)]) ?_ _ (lvS_l (show ([2, 0, 1] : List Nat).Nodup from by decide) (by intro q hq; simp only [List.mem_cons, List.not_mem_nil, or_false] at hq; rcases hq with rfl | rfl | rfl <;> rfl))
            refine s_97f (fun zq => ?_) ?_
            · exact nI_ne0 (by omega) (by omega) zq
            · exact hF0 (by omega)
      · have c_73 : bv = 125 := (nI_eq (a := bv) (b := 125) (by omega) (by omega)).mp (Classical.not_not.mp c_73)
        refine R_seg sg_97_76 sk_97_76 (pc' := 81) (lv' := [(4, .int (nI bv)), (3, .int (nI n)), (2, .int (nI dp)), (0, .ref 57), (1, .int ty)]) (st' := [.int (nI n), .ref 89]) (S' := stt (up2 σ 57 33 (nI q)) τ) (kc' := 0) (ks' := 0) rfl ⟨trivial, rfl, trivial, trivial⟩ ?_
        refine R_iald ca_97_81 (j := n) rfl rfl (by omega) ?_
        show RU_97 (d + 2) (0, 0) Post 82 ([(4, .int (nI bv)), (3, .int (nI n)), (2, .int (nI dp)), (0, .ref 57), (1, .int ty)]) ([.int (σ 89 n)]) (stt (up2 σ 57 33 (nI q)) τ) 0 0
        rw [hw]
        refine R_if ck_97_82 (fun (c_82 : (nI w) ≤ 0) => ?_) (fun (c_82 : ¬ (nI w) ≤ 0) => ?_)
        · have c_82 : w ≤ 0 := (nI_leI (a := w) (b := 0) (by omega) (by omega)).mp c_82
          refine R_seg sg_97_101 sk_97_101 (pc' := 105) (lv' := [(4, .int (nI bv)), (3, .int (nI n)), (2, .int (nI dp)), (0, .ref 57), (1, .int ty)]) (st' := [.int 48, .int (nI bv)]) (S' := stt (up2 σ 57 33 (nI q)) τ) (kc' := 0) (ks' := 0) rfl ⟨trivial, trivial, trivial⟩ ?_
          refine R_icmp ck_97_105 (fun (c_105 : (nI bv) < 48) => ?_) (fun (c_105 : ¬ (nI bv) < 48) => ?_)
          · have c_105 : bv < 48 := (nI_ltI (a := bv) (b := 48) (by omega) (by omega)).mp c_105
            refine R_seg sg_97_115 sk_97_115 (pc' := 121) (lv' := [(4, .int (nI bv)), (3, .int (nI n)), (2, .int (nI dp)), (0, .ref 57), (1, .int ty)]) (st' := [.int (nI q), .int 0, .ref 57]) (S' := stt (up2 σ 57 33 (nI q)) τ) (kc' := 0) (ks' := 0) rfl ⟨trivial, trivial, trivial, rfl, trivial⟩ ?_
            refine R_virt ck_97_121 57 [.int 0, .int (nI q)] 0 0 (r := []) rfl rfl rfl (Nat.le_of_ble_eq_true rfl) (Nat.le_refl _) (Nat.le_refl _) ?_
            refine x_99 (d := d + 1) (fun _ => ?_) (fun zq => absurd hft zq)
            rw [show ((1 : Int32) + 4 * (nI q)) + 0 = nI (1 + 4 * q + 0) from by simp only [nl_0, nl_1, nl_2, nl_3, nl_4, nl_5, nl_6, nl_8, nl_20, nl_31, nl_32, pk_mul, nI_add]]
            show RU_97 (d + 2) (0, 0) Post 124 ([(4, .int (nI bv)), (3, .int (nI n)), (2, .int (nI dp)), (0, .ref 57), (1, .int ty)]) ([]) (stt (up2 (up2 σ 57 33 (nI q)) 57 34 (nI (1 + 4 * q + 0))) τ) 0 0
            refine R_goto ck_97_124 ?_
            refine R_goto ck_97_306 ?_
            refine Runs.lv (lv := [(2, .int (nI dp)), (0, .ref 57), (1, .int ty)]) ?_ _ (lvS_l (show ([2, 0, 1] : List Nat).Nodup from by decide) (by intro q hq; simp only [List.mem_cons, List.not_mem_nil, or_false] at hq; rcases hq with rfl | rfl | rfl <;> rfl))
            refine s_97f (fun zq => ?_) ?_
            · exact nI_ne0 (by omega) (by omega) zq
            · exact hF0 (by omega)
          · have c_105 : 48 ≤ bv := Nat.not_lt.mp (fun zq => c_105 ((nI_ltI (a := bv) (b := 48) (by omega) (by omega)).mpr zq))
            refine R_seg sg_97_108 sk_97_108 (pc' := 112) (lv' := [(4, .int (nI bv)), (3, .int (nI n)), (2, .int (nI dp)), (0, .ref 57), (1, .int ty)]) (st' := [.int 51, .int (nI bv)]) (S' := stt (up2 σ 57 33 (nI q)) τ) (kc' := 0) (ks' := 0) rfl ⟨trivial, trivial, trivial⟩ ?_
            refine R_icmp ck_97_112 (fun (c_112 : (nI bv) ≤ 51) => ?_) (fun (c_112 : ¬ (nI bv) ≤ 51) => ?_)
            · have c_112 : bv ≤ 51 := (nI_leI (a := bv) (b := 51) (by omega) (by omega)).mp c_112
              refine R_seg sg_97_127 sk_97_127 (pc' := 132) (lv' := [(4, .int (nI bv)), (3, .int (nI n)), (2, .int (nI dp)), (0, .ref 57), (1, .int ty)]) (st' := [.int (nI n), .ref 89]) (S' := stt (up2 σ 57 33 (nI q)) τ) (kc' := 0) (ks' := 0) rfl ⟨trivial, rfl, trivial, trivial⟩ ?_
              refine R_iald ca_97_132 (j := n) rfl rfl (by omega) ?_
              show RU_97 (d + 2) (0, 0) Post 133 ([(4, .int (nI bv)), (3, .int (nI n)), (2, .int (nI dp)), (0, .ref 57), (1, .int ty)]) ([.int (σ 89 n)]) (stt (up2 σ 57 33 (nI q)) τ) 0 0
              rw [hw]
              refine R_seg sg_97_133 sk_97_133 (pc' := 135) (lv' := [(4, .int (nI bv)), (3, .int (nI n)), (2, .int (nI dp)), (0, .ref 57), (1, .int ty)]) (st' := [.int 6, .int (nI w)]) (S' := stt (up2 σ 57 33 (nI q)) τ) (kc' := 0) (ks' := 0) rfl ⟨trivial, trivial⟩ ?_
              refine R_icmp ck_97_135 (fun (c_135 : ¬ (nI w) = 6) => ?_) (fun (c_135 : ¬ ¬ (nI w) = 6) => ?_)
              · have c_135 : ¬ w = 6 := fun zq => c_135 ((nI_eq (a := w) (b := 6) (by omega) (by omega)).mpr zq)
                refine R_seg sg_97_150 sk_97_150 (pc' := 156) (lv' := [(4, .int (nI bv)), (3, .int (nI n)), (2, .int (nI dp)), (0, .ref 57), (1, .int ty)]) (st' := [.int (nI n), .ref 87, .int 4]) (S' := stt (up2 σ 57 33 (nI q)) τ) (kc' := 0) (ks' := 0) rfl ⟨trivial, trivial, rfl, trivial, trivial⟩ ?_
                refine R_iald ca_97_156 (j := n) rfl rfl (by omega) ?_
                show RU_97 (d + 2) (0, 0) Post 157 ([(4, .int (nI bv)), (3, .int (nI n)), (2, .int (nI dp)), (0, .ref 57), (1, .int ty)]) ([.int (σ 87 n), .int 4]) (stt (up2 σ 57 33 (nI q)) τ) 0 0
                rw [ht]
                refine R_seg sg_97_157 sk_97_157 (pc' := 175) (lv' := [(5, .int (((4 * (nI t)) + (nI bv)) - 48)), (4, .int (nI bv)), (3, .int (nI n)), (2, .int (nI dp)), (0, .ref 57), (1, .int ty)]) (st' := [.int (nI n), .ref 89, .int (6 * (nI n))]) (S' := stt (up2 σ 57 33 (nI q)) τ) (kc' := 0) (ks' := 0) rfl ⟨trivial, trivial, trivial, trivial, trivial, (by decide), trivial, trivial, trivial, trivial, rfl, trivial, trivial⟩ ?_
                rw [show (4 * nI t + nI bv) - 48 = nI (t * 4 + (bv - 48)) from idx48 (by omega)]
                refine R_iald ca_97_175 (j := n) rfl rfl (by omega) ?_
                show RU_97 (d + 2) (0, 0) Post 176 ([(5, .int (nI (t * 4 + (bv - 48)))), (4, .int (nI bv)), (3, .int (nI n)), (2, .int (nI dp)), (0, .ref 57), (1, .int ty)]) ([.int (σ 89 n), .int (6 * (nI n))]) (stt (up2 σ 57 33 (nI q)) τ) 0 0
                rw [hw]
                refine R_seg sg_97_176 sk_97_176 (pc' := 190) (lv' := [(6, .int ((6 * (nI n)) + (nI w))), (5, .int (nI (t * 4 + (bv - 48)))), (4, .int (nI bv)), (3, .int (nI n)), (2, .int (nI dp)), (0, .ref 57), (1, .int ty)]) (st' := [.int ((nI bv) - 48), .int ((6 * (nI n)) + (nI w)), .ref 90]) (S' := stt (up2 σ 57 33 (nI q)) τ) (kc' := 0) (ks' := 0) rfl ⟨trivial, (by decide), trivial, rfl, trivial, trivial, trivial, trivial, trivial⟩ ?_
                rw [show 6 * nI n + nI w = nI (n * 6 + w) from by first | (simp only [nl_0, nl_1, nl_2, nl_3, nl_4, nl_5, nl_6, nl_8, nl_20, nl_31, nl_32, pk_mul, nI_add]; done) | (simp only [nl_0, nl_1, nl_2, nl_3, nl_4, nl_5, nl_6, nl_8, nl_20, nl_31, nl_32, pk_mul, nI_add]; congr 1; omega)]
                rw [show nI bv - 48 = nI (bv - 48) from pk_sub (b := 48) (by omega)]
                refine R_iast ca_97_190 (j := n * 6 + w) rfl rfl (by omega) ?_
                refine R_seg sg_97_191 sk_97_191 (pc' := 198) (lv' := [(6, .int (nI (n * 6 + w))), (5, .int (nI (t * 4 + (bv - 48)))), (4, .int (nI bv)), (3, .int (nI n)), (2, .int (nI dp)), (0, .ref 57), (1, .int ty)]) (st' := [.int (-1), .int (nI (n * 6 + w)), .ref 91]) (S' := stt (up2 (up2 σ 57 33 (nI q)) 90 (n * 6 + w) (nI (bv - 48))) τ) (kc' := 0) (ks' := 0) rfl ⟨trivial, rfl, trivial, trivial, trivial⟩ ?_
                refine R_iast ca_97_198 (j := n * 6 + w) rfl rfl (by omega) ?_
                refine R_seg sg_97_199 sk_97_199 (pc' := 205) (lv' := [(6, .int (nI (n * 6 + w))), (5, .int (nI (t * 4 + (bv - 48)))), (4, .int (nI bv)), (3, .int (nI n)), (2, .int (nI dp)), (0, .ref 57), (1, .int ty)]) (st' := [.int (nI n), .ref 89, .int (nI n), .ref 89]) (S' := stt (up2 (up2 (up2 σ 57 33 (nI q)) 90 (n * 6 + w) (nI (bv - 48))) 91 (n * 6 + w) (-1)) τ) (kc' := 0) (ks' := 0) rfl ⟨trivial, rfl, trivial, ⟨rfl, rfl⟩, trivial⟩ ?_
                refine R_iald ca_97_205 (j := n) rfl rfl (by omega) ?_
                show RU_97 (d + 2) (0, 0) Post 206 ([(6, .int (nI (n * 6 + w))), (5, .int (nI (t * 4 + (bv - 48)))), (4, .int (nI bv)), (3, .int (nI n)), (2, .int (nI dp)), (0, .ref 57), (1, .int ty)]) ([.int (σ 89 n), .int (nI n), .ref 89]) (stt (up2 (up2 (up2 σ 57 33 (nI q)) 90 (n * 6 + w) (nI (bv - 48))) 91 (n * 6 + w) (-1)) τ) 0 0
                rw [hw]
                refine R_seg sg_97_206 sk_97_206 (pc' := 208) (lv' := [(6, .int (nI (n * 6 + w))), (5, .int (nI (t * 4 + (bv - 48)))), (4, .int (nI bv)), (3, .int (nI n)), (2, .int (nI dp)), (0, .ref 57), (1, .int ty)]) (st' := [.int ((nI w) + 1), .int (nI n), .ref 89]) (S' := stt (up2 (up2 (up2 σ 57 33 (nI q)) 90 (n * 6 + w) (nI (bv - 48))) 91 (n * 6 + w) (-1)) τ) (kc' := 0) (ks' := 0) rfl ⟨trivial, trivial, trivial⟩ ?_
                refine R_iast ca_97_208 (j := n) rfl rfl (by omega) ?_
                refine R_seg sg_97_209 sk_97_209 (pc' := 225) (lv' := [(6, .int (nI (n * 6 + w))), (5, .int (nI (t * 4 + (bv - 48)))), (4, .int (nI bv)), (3, .int (nI n)), (2, .int (nI dp)), (0, .ref 57), (1, .int ty)]) (st' := [.int (nI (t * 4 + (bv - 48))), .ref 72]) (S' := stt (up2 (up2 (up2 (up2 (up2 σ 57 33 (nI q)) 90 (n * 6 + w) (nI (bv - 48))) 91 (n * 6 + w) (-1)) 89 n ((nI w) + 1)) 57 33 ((nI q) + 1)) τ) (kc' := 0) (ks' := 0) rfl ⟨trivial, rfl, rfl, trivial, trivial, ⟨rfl, ⟨rfl, rfl⟩⟩, trivial, rfl, trivial, trivial⟩ ?_
                refine R_iald ca_97_225 (j := t * 4 + (bv - 48)) rfl rfl (by omega) ?_
                show RU_97 (d + 2) (0, 0) Post 226 ([(6, .int (nI (n * 6 + w))), (5, .int (nI (t * 4 + (bv - 48)))), (4, .int (nI bv)), (3, .int (nI n)), (2, .int (nI dp)), (0, .ref 57), (1, .int ty)]) ([.int (σ 72 (t * 4 + (bv - 48)))]) (stt (up2 (up2 (up2 (up2 (up2 σ 57 33 (nI q)) 90 (n * 6 + w) (nI (bv - 48))) 91 (n * 6 + w) (-1)) 89 n ((nI w) + 1)) 57 33 ((nI q) + 1)) τ) 0 0
                rw [hkd (by omega) (by omega)]
                refine R_if ck_97_226 (fun (c_226 : (nI kd) = 0) => ?_) (fun (c_226 : ¬ (nI kd) = 0) => ?_)
                · have c_226 : kd = 0 := (nI_eq (a := kd) (b := 0) (by omega) (by omega)).mp c_226
                  refine R_goto ck_97_306 ?_
                  refine Runs.lv (lv := [(2, .int (nI dp)), (0, .ref 57), (1, .int ty)]) ?_ _ (lvS_l (show ([2, 0, 1] : List Nat).Nodup from by decide) (by intro q hq; simp only [List.mem_cons, List.not_mem_nil, or_false] at hq; rcases hq with rfl | rfl | rfl <;> rfl))
                  exact hN (by omega) (by omega) (by omega) (by omega)
                · have c_226 : ¬ kd = 0 := fun zq => c_226 ((nI_eq (a := kd) (b := 0) (by omega) (by omega)).mpr zq)
                  refine R_seg sg_97_229 sk_97_229 (pc' := 230) (lv' := [(6, .int (nI (n * 6 + w))), (5, .int (nI (t * 4 + (bv - 48)))), (4, .int (nI bv)), (3, .int (nI n)), (2, .int (nI dp)), (0, .ref 57), (1, .int ty)]) (st' := [.ref 57]) (S' := stt (up2 (up2 (up2 (up2 (up2 σ 57 33 (nI q)) 90 (n * 6 + w) (nI (bv - 48))) 91 (n * 6 + w) (-1)) 89 n ((nI w) + 1)) 57 33 ((nI q) + 1)) τ) (kc' := 0) (ks' := 0) rfl ⟨trivial, trivial⟩ ?_
                  refine R_virt ck_97_230 57 [] 0 0 (r := []) rfl rfl rfl (Nat.le_of_ble_eq_true rfl) (Nat.le_refl _) (Nat.le_refl _) ?_
                  refine x_98 (d := d + 1) (σ := up2 (up2 (up2 (up2 (up2 σ 57 33 (nI q)) 90 (n * 6 + w) (nI (bv - 48))) 91 (n * 6 + w) (-1)) 89 n ((nI w) + 1)) 57 33 ((nI q) + 1)) (p := q + 1) (q := q2) (nI_1 q) hlen hlen2 (hq12 (by omega)) hq22 (hbl2 (by omega)) hne2 (fun p_1 => ?_) (fun p_1 => ?_)
                  · show RU_97 (d + 2) (0, 0) Post 233 ([(6, .int (nI (n * 6 + w))), (5, .int (nI (t * 4 + (bv - 48)))), (4, .int (nI bv)), (3, .int (nI n)), (2, .int (nI dp)), (0, .ref 57), (1, .int ty)]) ([.int (-1)]) (stt (up2 (up2 (up2 (up2 (up2 (up2 σ 57 33 (nI q)) 90 (n * 6 + w) (nI (bv - 48))) 91 (n * 6 + w) (-1)) 89 n ((nI w) + 1)) 57 33 ((nI q) + 1)) 57 33 (nI q2)) τ) 0 0
                    refine R_seg sg_97_233 sk_97_233 (pc' := 235) (lv' := [(6, .int (nI (n * 6 + w))), (5, .int (nI (t * 4 + (bv - 48)))), (4, .int (nI bv)), (3, .int (nI n)), (2, .int (nI dp)), (0, .ref 57), (1, .int ty)]) (st' := [.int 123, .int (-1)]) (S' := stt (up2 (up2 (up2 (up2 (up2 (up2 σ 57 33 (nI q)) 90 (n * 6 + w) (nI (bv - 48))) 91 (n * 6 + w) (-1)) 89 n ((nI w) + 1)) 57 33 ((nI q) + 1)) 57 33 (nI q2)) τ) (kc' := 0) (ks' := 0) rfl ⟨trivial, trivial⟩ ?_
                    refine R_icmp ck_97_235 (fun c => absurd c (show ¬ (-1 : Int32) = 123 from by decide)) (fun _ => ?_)
                    refine R_seg sg_97_238 sk_97_238 (pc' := 244) (lv' := [(6, .int (nI (n * 6 + w))), (5, .int (nI (t * 4 + (bv - 48)))), (4, .int (nI bv)), (3, .int (nI n)), (2, .int (nI dp)), (0, .ref 57), (1, .int ty)]) (st' := [.int (nI q2), .int 0, .ref 57]) (S' := stt (up2 (up2 (up2 (up2 (up2 (up2 σ 57 33 (nI q)) 90 (n * 6 + w) (nI (bv - 48))) 91 (n * 6 + w) (-1)) 89 n ((nI w) + 1)) 57 33 ((nI q) + 1)) 57 33 (nI q2)) τ) (kc' := 0) (ks' := 0) rfl ⟨trivial, trivial, trivial, rfl, trivial⟩ ?_
                    refine R_virt ck_97_244 57 [.int 0, .int (nI q2)] 0 0 (r := []) rfl rfl rfl (Nat.le_of_ble_eq_true rfl) (Nat.le_refl _) (Nat.le_refl _) ?_
                    refine x_99 (d := d + 1) (fun _ => ?_) (fun zq => absurd hft zq)
                    rw [show ((1 : Int32) + 4 * (nI q2)) + 0 = nI (1 + 4 * q2 + 0) from by simp only [nl_0, nl_1, nl_2, nl_3, nl_4, nl_5, nl_6, nl_8, nl_20, nl_31, nl_32, pk_mul, nI_add]]
                    show RU_97 (d + 2) (0, 0) Post 247 ([(6, .int (nI (n * 6 + w))), (5, .int (nI (t * 4 + (bv - 48)))), (4, .int (nI bv)), (3, .int (nI n)), (2, .int (nI dp)), (0, .ref 57), (1, .int ty)]) ([]) (stt (up2 (up2 (up2 (up2 (up2 (up2 (up2 σ 57 33 (nI q)) 90 (n * 6 + w) (nI (bv - 48))) 91 (n * 6 + w) (-1)) 89 n ((nI w) + 1)) 57 33 ((nI q) + 1)) 57 33 (nI q2)) 57 34 (nI (1 + 4 * q2 + 0))) τ) 0 0
                    refine R_goto ck_97_247 ?_
                    refine R_goto ck_97_306 ?_
                    refine Runs.lv (lv := [(2, .int (nI dp)), (0, .ref 57), (1, .int ty)]) ?_ _ (lvS_l (show ([2, 0, 1] : List Nat).Nodup from by decide) (by intro q hq; simp only [List.mem_cons, List.not_mem_nil, or_false] at hq; rcases hq with rfl | rfl | rfl <;> rfl))
                    refine s_97f (fun zq => ?_) ?_
                    · exact nI_ne0 (by omega) (by omega) zq
                    · exact hF3 (by omega) (by omega) (by omega) (by omega) (by omega)
                  · show RU_97 (d + 2) (0, 0) Post 233 ([(6, .int (nI (n * 6 + w))), (5, .int (nI (t * 4 + (bv - 48)))), (4, .int (nI bv)), (3, .int (nI n)), (2, .int (nI dp)), (0, .ref 57), (1, .int ty)]) ([.int ((σ 86 q2) &&& 255)]) (stt (up2 (up2 (up2 (up2 (up2 (up2 σ 57 33 (nI q)) 90 (n * 6 + w) (nI (bv - 48))) 91 (n * 6 + w) (-1)) 89 n ((nI w) + 1)) 57 33 ((nI q) + 1)) 57 33 (nI q2)) τ) 0 0
                    refine R_seg sg_97_233 sk_97_233 (pc' := 235) (lv' := [(6, .int (nI (n * 6 + w))), (5, .int (nI (t * 4 + (bv - 48)))), (4, .int (nI bv)), (3, .int (nI n)), (2, .int (nI dp)), (0, .ref 57), (1, .int ty)]) (st' := [.int 123, .int ((σ 86 q2) &&& 255)]) (S' := stt (up2 (up2 (up2 (up2 (up2 (up2 σ 57 33 (nI q)) 90 (n * 6 + w) (nI (bv - 48))) 91 (n * 6 + w) (-1)) 89 n ((nI w) + 1)) 57 33 ((nI q) + 1)) 57 33 (nI q2)) τ) (kc' := 0) (ks' := 0) rfl ⟨trivial, trivial⟩ ?_
                    rw [hb2 (by omega)]
                    refine R_icmp ck_97_235 (fun (c_235 : (nI b2) = 123) => ?_) (fun (c_235 : ¬ (nI b2) = 123) => ?_)
                    · have c_235 : b2 = 123 := (nI_eq (a := b2) (b := 123) (by omega) (by omega)).mp c_235
                      refine R_seg sg_97_250 sk_97_250 (pc' := 260) (lv' := [(6, .int (nI (n * 6 + w))), (5, .int (nI (t * 4 + (bv - 48)))), (4, .int (nI bv)), (3, .int (nI n)), (2, .int (nI dp)), (0, .ref 57), (1, .int ty)]) (st' := [.int (σ 57 35), .int (nI (n * 6 + w)), .ref 91]) (S' := stt (up2 (up2 (up2 (up2 (up2 (up2 σ 57 33 (nI q)) 90 (n * 6 + w) (nI (bv - 48))) 91 (n * 6 + w) (-1)) 89 n ((nI w) + 1)) 57 33 ((nI q) + 1)) 57 33 (nI q2)) τ) (kc' := 0) (ks' := 0) rfl ⟨trivial, rfl, trivial, trivial, rfl, trivial⟩ ?_
                      rw [hnd]
                      refine R_iast ca_97_260 (j := n * 6 + w) rfl rfl (by omega) ?_
                      refine R_seg sg_97_261 sk_97_261 (pc' := 268) (lv' := [(6, .int (nI (n * 6 + w))), (5, .int (nI (t * 4 + (bv - 48)))), (4, .int (nI bv)), (3, .int (nI n)), (2, .int (nI dp)), (0, .ref 57), (1, .int ty)]) (st' := [.int (nI (t * 4 + (bv - 48))), .ref 73, .ref 57]) (S' := stt (up2 (up2 (up2 (up2 (up2 (up2 (up2 σ 57 33 (nI q)) 90 (n * 6 + w) (nI (bv - 48))) 91 (n * 6 + w) (-1)) 89 n ((nI w) + 1)) 57 33 ((nI q) + 1)) 57 33 (nI q2)) 91 (n * 6 + w) (nI nd)) τ) (kc' := 0) (ks' := 0) rfl ⟨trivial, trivial, rfl, trivial, trivial⟩ ?_
                      refine R_iald ca_97_268 (j := t * 4 + (bv - 48)) rfl rfl (by omega) ?_
                      refine R_seg sg_97_269 sk_97_269 (pc' := 274) (lv' := [(6, .int (nI (n * 6 + w))), (5, .int (nI (t * 4 + (bv - 48)))), (4, .int (nI bv)), (3, .int (nI n)), (2, .int (nI dp)), (0, .ref 57), (1, .int ty)]) (st' := [.int (nI n), .ref 92, .int (σ 73 (t * 4 + (bv - 48))), .ref 57]) (S' := stt (up2 (up2 (up2 (up2 (up2 (up2 (up2 σ 57 33 (nI q)) 90 (n * 6 + w) (nI (bv - 48))) 91 (n * 6 + w) (-1)) 89 n ((nI w) + 1)) 57 33 ((nI q) + 1)) 57 33 (nI q2)) 91 (n * 6 + w) (nI nd)) τ) (kc' := 0) (ks' := 0) rfl ⟨trivial, rfl, trivial, trivial⟩ ?_
                      refine R_lald ca_97_274 (j := n) rfl rfl (by omega) ?_
                      refine R_seg sg_97_275 sk_97_275 (pc' := 281) (lv' := [(6, .int (nI (n * 6 + w))), (5, .int (nI (t * 4 + (bv - 48)))), (4, .int (nI bv)), (3, .int (nI n)), (2, .int (nI dp)), (0, .ref 57), (1, .int ty)]) (st' := [.int (nI (t * 4 + (bv - 48))), .ref 72, .long (τ 92 n), .int (σ 73 (t * 4 + (bv - 48))), .ref 57]) (S' := stt (up2 (up2 (up2 (up2 (up2 (up2 (up2 σ 57 33 (nI q)) 90 (n * 6 + w) (nI (bv - 48))) 91 (n * 6 + w) (-1)) 89 n ((nI w) + 1)) 57 33 ((nI q) + 1)) 57 33 (nI q2)) 91 (n * 6 + w) (nI nd)) τ) (kc' := 0) (ks' := 0) rfl ⟨trivial, rfl, trivial, trivial⟩ ?_
                      refine R_iald ca_97_281 (j := t * 4 + (bv - 48)) rfl rfl (by omega) ?_
                      show RU_97 (d + 2) (0, 0) Post 282 ([(6, .int (nI (n * 6 + w))), (5, .int (nI (t * 4 + (bv - 48)))), (4, .int (nI bv)), (3, .int (nI n)), (2, .int (nI dp)), (0, .ref 57), (1, .int ty)]) ([.int (σ 72 (t * 4 + (bv - 48))), .long (τ 92 n), .int (σ 73 (t * 4 + (bv - 48))), .ref 57]) (stt (up2 (up2 (up2 (up2 (up2 (up2 (up2 σ 57 33 (nI q)) 90 (n * 6 + w) (nI (bv - 48))) 91 (n * 6 + w) (-1)) 89 n ((nI w) + 1)) 57 33 ((nI q) + 1)) 57 33 (nI q2)) 91 (n * 6 + w) (nI nd)) τ) 0 0
                      rw [hkd (by omega) (by omega)]
                      refine R_seg sg_97_282 sk_97_282 (pc' := 283) (lv' := [(6, .int (nI (n * 6 + w))), (5, .int (nI (t * 4 + (bv - 48)))), (4, .int (nI bv)), (3, .int (nI n)), (2, .int (nI dp)), (0, .ref 57), (1, .int ty)]) (st' := [.int 2, .int (nI kd), .long (τ 92 n), .int (σ 73 (t * 4 + (bv - 48))), .ref 57]) (S' := stt (up2 (up2 (up2 (up2 (up2 (up2 (up2 σ 57 33 (nI q)) 90 (n * 6 + w) (nI (bv - 48))) 91 (n * 6 + w) (-1)) 89 n ((nI w) + 1)) 57 33 ((nI q) + 1)) 57 33 (nI q2)) 91 (n * 6 + w) (nI nd)) τ) (kc' := 0) (ks' := 0) rfl ⟨trivial, trivial⟩ ?_
                      refine R_icmp ck_97_283 (fun (c_283 : ¬ (nI kd) = 2) => ?_) (fun (c_283 : ¬ ¬ (nI kd) = 2) => ?_)
                      · have c_283 : ¬ kd = 2 := fun zq => c_283 ((nI_eq (a := kd) (b := 2) (by omega) (by omega)).mpr zq)
                        refine R_seg sg_97_296 sk_97_296 (pc' := 297) (lv' := [(6, .int (nI (n * 6 + w))), (5, .int (nI (t * 4 + (bv - 48)))), (4, .int (nI bv)), (3, .int (nI n)), (2, .int (nI dp)), (0, .ref 57), (1, .int ty)]) (st' := [.int 1, .long (τ 92 n), .int (σ 73 (t * 4 + (bv - 48))), .ref 57]) (S' := stt (up2 (up2 (up2 (up2 (up2 (up2 (up2 σ 57 33 (nI q)) 90 (n * 6 + w) (nI (bv - 48))) 91 (n * 6 + w) (-1)) 89 n ((nI w) + 1)) 57 33 ((nI q) + 1)) 57 33 (nI q2)) 91 (n * 6 + w) (nI nd)) τ) (kc' := 0) (ks' := 0) rfl ⟨trivial, trivial⟩ ?_
                        refine R_seg sg_97_297 sk_97_297 (pc' := 300) (lv' := [(6, .int (nI (n * 6 + w))), (5, .int (nI (t * 4 + (bv - 48)))), (4, .int (nI bv)), (3, .int (nI n)), (2, .int (nI dp)), (0, .ref 57), (1, .int ty)]) (st' := [.int (nI dp), .long ((τ 92 n) * ((1 : Int32).toInt64)), .int (σ 73 (t * 4 + (bv - 48))), .ref 57]) (S' := stt (up2 (up2 (up2 (up2 (up2 (up2 (up2 σ 57 33 (nI q)) 90 (n * 6 + w) (nI (bv - 48))) 91 (n * 6 + w) (-1)) 89 n ((nI w) + 1)) 57 33 ((nI q) + 1)) 57 33 (nI q2)) 91 (n * 6 + w) (nI nd)) τ) (kc' := 0) (ks' := 0) rfl ⟨trivial, trivial, trivial, trivial⟩ ?_
                        refine R_virt ck_97_300 57 [.int (σ 73 (t * 4 + (bv - 48))), .long ((τ 92 n) * ((1 : Int32).toInt64)), .int (nI dp)] 0 0 (r := []) rfl rfl rfl (Nat.le_of_ble_eq_true rfl) (Nat.le_refl _) (Nat.le_refl _) ?_
                        refine x_100 (d := d) (σ := up2 (up2 (up2 (up2 (up2 (up2 (up2 σ 57 33 (nI q)) 90 (n * 6 + w) (nI (bv - 48))) 91 (n * 6 + w) (-1)) 89 n ((nI w) + 1)) 57 33 ((nI q) + 1)) 57 33 (nI q2)) 91 (n * 6 + w) (nI nd)) (p := q2) hnd (by omega) (by omega) rfl (by omega) hft (fun r_f => ?_) (fun r_1 r_2 => ?_)
                        · show RU_97 (d + 2) (0, 0) Post 303 ([(6, .int (nI (n * 6 + w))), (5, .int (nI (t * 4 + (bv - 48)))), (4, .int (nI bv)), (3, .int (nI n)), (2, .int (nI dp)), (0, .ref 57), (1, .int ty)]) ([]) (stt (up2 (up2 (up2 (up2 (up2 (up2 (up2 (up2 σ 57 33 (nI q)) 90 (n * 6 + w) (nI (bv - 48))) 91 (n * 6 + w) (-1)) 89 n ((nI w) + 1)) 57 33 ((nI q) + 1)) 57 33 (nI q2)) 91 (n * 6 + w) (nI nd)) 57 34 (nI (1 + 4 * q2 + 1))) τ) 0 0
                          refine R_seg sg_97_303 sk_97_303 (pc' := 306) (lv' := [(2, .int ((nI dp) + 1)), (6, .int (nI (n * 6 + w))), (5, .int (nI (t * 4 + (bv - 48)))), (4, .int (nI bv)), (3, .int (nI n)), (0, .ref 57), (1, .int ty)]) (st' := []) (S' := stt (up2 (up2 (up2 (up2 (up2 (up2 (up2 (up2 σ 57 33 (nI q)) 90 (n * 6 + w) (nI (bv - 48))) 91 (n * 6 + w) (-1)) 89 n ((nI w) + 1)) 57 33 ((nI q) + 1)) 57 33 (nI q2)) 91 (n * 6 + w) (nI nd)) 57 34 (nI (1 + 4 * q2 + 1))) τ) (kc' := 0) (ks' := 0) rfl ⟨(by decide), trivial⟩ ?_
                          refine R_goto ck_97_306 ?_
                          refine Runs.lv (lv := [(2, .int ((nI dp) + 1)), (0, .ref 57), (1, .int ty)]) ?_ _ (lvS_l (show ([2, 0, 1] : List Nat).Nodup from by decide) (by intro q hq; simp only [List.mem_cons, List.not_mem_nil, or_false] at hq; rcases hq with rfl | rfl | rfl <;> rfl))
                          refine s_97f (fun zq => ?_) ?_
                          · exact nI_ne0 (by omega) (by omega) zq
                          · exact hF4 (by omega) (by omega) (by omega) (by omega) (by omega) (by omega)
                        · show RU_97 (d + 2) (0, 0) Post 303 ([(6, .int (nI (n * 6 + w))), (5, .int (nI (t * 4 + (bv - 48)))), (4, .int (nI bv)), (3, .int (nI n)), (2, .int (nI dp)), (0, .ref 57), (1, .int ty)]) ([]) (stt (m_beg (up2 (up2 (up2 (up2 (up2 (up2 (up2 σ 57 33 (nI q)) 90 (n * 6 + w) (nI (bv - 48))) 91 (n * 6 + w) (-1)) 89 n ((nI w) + 1)) 57 33 ((nI q) + 1)) 57 33 (nI q2)) 91 (n * 6 + w) (nI nd)) nd dp q2 (σ 73 (t * 4 + (bv - 48)))) (up2 τ 92 nd ((τ 92 n) * ((1 : Int32).toInt64)))) 0 0
                          refine R_seg sg_97_303 sk_97_303 (pc' := 306) (lv' := [(2, .int ((nI dp) + 1)), (6, .int (nI (n * 6 + w))), (5, .int (nI (t * 4 + (bv - 48)))), (4, .int (nI bv)), (3, .int (nI n)), (0, .ref 57), (1, .int ty)]) (st' := []) (S' := stt (m_beg (up2 (up2 (up2 (up2 (up2 (up2 (up2 σ 57 33 (nI q)) 90 (n * 6 + w) (nI (bv - 48))) 91 (n * 6 + w) (-1)) 89 n ((nI w) + 1)) 57 33 ((nI q) + 1)) 57 33 (nI q2)) 91 (n * 6 + w) (nI nd)) nd dp q2 (σ 73 (t * 4 + (bv - 48)))) (up2 τ 92 nd ((τ 92 n) * ((1 : Int32).toInt64)))) (kc' := 0) (ks' := 0) rfl ⟨(by decide), trivial⟩ ?_
                          refine R_goto ck_97_306 ?_
                          refine Runs.lv (lv := [(2, .int ((nI dp) + 1)), (0, .ref 57), (1, .int ty)]) ?_ _ (lvS_l (show ([2, 0, 1] : List Nat).Nodup from by decide) (by intro q hq; simp only [List.mem_cons, List.not_mem_nil, or_false] at hq; rcases hq with rfl | rfl | rfl <;> rfl))
                          exact hBR (by omega) (by omega) (by omega) (by omega) (by omega) (by omega) (by omega) (by omega)
                      · have c_283 : kd = 2 := (nI_eq (a := kd) (b := 2) (by omega) (by omega)).mp (Classical.not_not.mp c_283)
                        refine R_seg sg_97_286 sk_97_286 (pc' := 292) (lv' := [(6, .int (nI (n * 6 + w))), (5, .int (nI (t * 4 + (bv - 48)))), (4, .int (nI bv)), (3, .int (nI n)), (2, .int (nI dp)), (0, .ref 57), (1, .int ty)]) (st' := [.int (nI (t * 4 + (bv - 48))), .ref 74, .long (τ 92 n), .int (σ 73 (t * 4 + (bv - 48))), .ref 57]) (S' := stt (up2 (up2 (up2 (up2 (up2 (up2 (up2 σ 57 33 (nI q)) 90 (n * 6 + w) (nI (bv - 48))) 91 (n * 6 + w) (-1)) 89 n ((nI w) + 1)) 57 33 ((nI q) + 1)) 57 33 (nI q2)) 91 (n * 6 + w) (nI nd)) τ) (kc' := 0) (ks' := 0) rfl ⟨trivial, rfl, trivial, trivial⟩ ?_
                        refine R_iald ca_97_292 (j := t * 4 + (bv - 48)) rfl rfl (by omega) ?_
                        refine R_goto ck_97_293 ?_
                        refine R_seg sg_97_297 sk_97_297 (pc' := 300) (lv' := [(6, .int (nI (n * 6 + w))), (5, .int (nI (t * 4 + (bv - 48)))), (4, .int (nI bv)), (3, .int (nI n)), (2, .int (nI dp)), (0, .ref 57), (1, .int ty)]) (st' := [.int (nI dp), .long ((τ 92 n) * ((σ 74 (t * 4 + (bv - 48))).toInt64)), .int (σ 73 (t * 4 + (bv - 48))), .ref 57]) (S' := stt (up2 (up2 (up2 (up2 (up2 (up2 (up2 σ 57 33 (nI q)) 90 (n * 6 + w) (nI (bv - 48))) 91 (n * 6 + w) (-1)) 89 n ((nI w) + 1)) 57 33 ((nI q) + 1)) 57 33 (nI q2)) 91 (n * 6 + w) (nI nd)) τ) (kc' := 0) (ks' := 0) rfl ⟨trivial, trivial, trivial, trivial⟩ ?_
                        refine R_virt ck_97_300 57 [.int (σ 73 (t * 4 + (bv - 48))), .long ((τ 92 n) * ((σ 74 (t * 4 + (bv - 48))).toInt64)), .int (nI dp)] 0 0 (r := []) rfl rfl rfl (Nat.le_of_ble_eq_true rfl) (Nat.le_refl _) (Nat.le_refl _) ?_
                        refine x_100 (d := d) (σ := up2 (up2 (up2 (up2 (up2 (up2 (up2 σ 57 33 (nI q)) 90 (n * 6 + w) (nI (bv - 48))) 91 (n * 6 + w) (-1)) 89 n ((nI w) + 1)) 57 33 ((nI q) + 1)) 57 33 (nI q2)) 91 (n * 6 + w) (nI nd)) (p := q2) hnd (by omega) (by omega) rfl (by omega) hft (fun r_f => ?_) (fun r_1 r_2 => ?_)
                        · show RU_97 (d + 2) (0, 0) Post 303 ([(6, .int (nI (n * 6 + w))), (5, .int (nI (t * 4 + (bv - 48)))), (4, .int (nI bv)), (3, .int (nI n)), (2, .int (nI dp)), (0, .ref 57), (1, .int ty)]) ([]) (stt (up2 (up2 (up2 (up2 (up2 (up2 (up2 (up2 σ 57 33 (nI q)) 90 (n * 6 + w) (nI (bv - 48))) 91 (n * 6 + w) (-1)) 89 n ((nI w) + 1)) 57 33 ((nI q) + 1)) 57 33 (nI q2)) 91 (n * 6 + w) (nI nd)) 57 34 (nI (1 + 4 * q2 + 1))) τ) 0 0
                          refine R_seg sg_97_303 sk_97_303 (pc' := 306) (lv' := [(2, .int ((nI dp) + 1)), (6, .int (nI (n * 6 + w))), (5, .int (nI (t * 4 + (bv - 48)))), (4, .int (nI bv)), (3, .int (nI n)), (0, .ref 57), (1, .int ty)]) (st' := []) (S' := stt (up2 (up2 (up2 (up2 (up2 (up2 (up2 (up2 σ 57 33 (nI q)) 90 (n * 6 + w) (nI (bv - 48))) 91 (n * 6 + w) (-1)) 89 n ((nI w) + 1)) 57 33 ((nI q) + 1)) 57 33 (nI q2)) 91 (n * 6 + w) (nI nd)) 57 34 (nI (1 + 4 * q2 + 1))) τ) (kc' := 0) (ks' := 0) rfl ⟨(by decide), trivial⟩ ?_
                          refine R_goto ck_97_306 ?_
                          refine Runs.lv (lv := [(2, .int ((nI dp) + 1)), (0, .ref 57), (1, .int ty)]) ?_ _ (lvS_l (show ([2, 0, 1] : List Nat).Nodup from by decide) (by intro q hq; simp only [List.mem_cons, List.not_mem_nil, or_false] at hq; rcases hq with rfl | rfl | rfl <;> rfl))
                          refine s_97f (fun zq => ?_) ?_
                          · exact nI_ne0 (by omega) (by omega) zq
                          · exact hF4 (by omega) (by omega) (by omega) (by omega) (by omega) (by omega)
                        · show RU_97 (d + 2) (0, 0) Post 303 ([(6, .int (nI (n * 6 + w))), (5, .int (nI (t * 4 + (bv - 48)))), (4, .int (nI bv)), (3, .int (nI n)), (2, .int (nI dp)), (0, .ref 57), (1, .int ty)]) ([]) (stt (m_beg (up2 (up2 (up2 (up2 (up2 (up2 (up2 σ 57 33 (nI q)) 90 (n * 6 + w) (nI (bv - 48))) 91 (n * 6 + w) (-1)) 89 n ((nI w) + 1)) 57 33 ((nI q) + 1)) 57 33 (nI q2)) 91 (n * 6 + w) (nI nd)) nd dp q2 (σ 73 (t * 4 + (bv - 48)))) (up2 τ 92 nd ((τ 92 n) * ((σ 74 (t * 4 + (bv - 48))).toInt64)))) 0 0
                          refine R_seg sg_97_303 sk_97_303 (pc' := 306) (lv' := [(2, .int ((nI dp) + 1)), (6, .int (nI (n * 6 + w))), (5, .int (nI (t * 4 + (bv - 48)))), (4, .int (nI bv)), (3, .int (nI n)), (0, .ref 57), (1, .int ty)]) (st' := []) (S' := stt (m_beg (up2 (up2 (up2 (up2 (up2 (up2 (up2 σ 57 33 (nI q)) 90 (n * 6 + w) (nI (bv - 48))) 91 (n * 6 + w) (-1)) 89 n ((nI w) + 1)) 57 33 ((nI q) + 1)) 57 33 (nI q2)) 91 (n * 6 + w) (nI nd)) nd dp q2 (σ 73 (t * 4 + (bv - 48)))) (up2 τ 92 nd ((τ 92 n) * ((σ 74 (t * 4 + (bv - 48))).toInt64)))) (kc' := 0) (ks' := 0) rfl ⟨(by decide), trivial⟩ ?_
                          refine R_goto ck_97_306 ?_
                          refine Runs.lv (lv := [(2, .int ((nI dp) + 1)), (0, .ref 57), (1, .int ty)]) ?_ _ (lvS_l (show ([2, 0, 1] : List Nat).Nodup from by decide) (by intro q hq; simp only [List.mem_cons, List.not_mem_nil, or_false] at hq; rcases hq with rfl | rfl | rfl <;> rfl))
                          exact hBL (by omega) (by omega) (by omega) (by omega) (by omega) (by omega) (by omega) (by omega)
                    · have c_235 : ¬ b2 = 123 := fun zq => c_235 ((nI_eq (a := b2) (b := 123) (by omega) (by omega)).mpr zq)
                      refine R_seg sg_97_238 sk_97_238 (pc' := 244) (lv' := [(6, .int (nI (n * 6 + w))), (5, .int (nI (t * 4 + (bv - 48)))), (4, .int (nI bv)), (3, .int (nI n)), (2, .int (nI dp)), (0, .ref 57), (1, .int ty)]) (st' := [.int (nI q2), .int 0, .ref 57]) (S' := stt (up2 (up2 (up2 (up2 (up2 (up2 σ 57 33 (nI q)) 90 (n * 6 + w) (nI (bv - 48))) 91 (n * 6 + w) (-1)) 89 n ((nI w) + 1)) 57 33 ((nI q) + 1)) 57 33 (nI q2)) τ) (kc' := 0) (ks' := 0) rfl ⟨trivial, trivial, trivial, rfl, trivial⟩ ?_
                      refine R_virt ck_97_244 57 [.int 0, .int (nI q2)] 0 0 (r := []) rfl rfl rfl (Nat.le_of_ble_eq_true rfl) (Nat.le_refl _) (Nat.le_refl _) ?_
                      refine x_99 (d := d + 1) (fun _ => ?_) (fun zq => absurd hft zq)
                      rw [show ((1 : Int32) + 4 * (nI q2)) + 0 = nI (1 + 4 * q2 + 0) from by simp only [nl_0, nl_1, nl_2, nl_3, nl_4, nl_5, nl_6, nl_8, nl_20, nl_31, nl_32, pk_mul, nI_add]]
                      show RU_97 (d + 2) (0, 0) Post 247 ([(6, .int (nI (n * 6 + w))), (5, .int (nI (t * 4 + (bv - 48)))), (4, .int (nI bv)), (3, .int (nI n)), (2, .int (nI dp)), (0, .ref 57), (1, .int ty)]) ([]) (stt (up2 (up2 (up2 (up2 (up2 (up2 (up2 σ 57 33 (nI q)) 90 (n * 6 + w) (nI (bv - 48))) 91 (n * 6 + w) (-1)) 89 n ((nI w) + 1)) 57 33 ((nI q) + 1)) 57 33 (nI q2)) 57 34 (nI (1 + 4 * q2 + 0))) τ) 0 0
                      refine R_goto ck_97_247 ?_
                      refine R_goto ck_97_306 ?_
                      refine Runs.lv (lv := [(2, .int (nI dp)), (0, .ref 57), (1, .int ty)]) ?_ _ (lvS_l (show ([2, 0, 1] : List Nat).Nodup from by decide) (by intro q hq; simp only [List.mem_cons, List.not_mem_nil, or_false] at hq; rcases hq with rfl | rfl | rfl <;> rfl))
                      refine s_97f (fun zq => ?_) ?_
                      · exact nI_ne0 (by omega) (by omega) zq
                      · exact hF3 (by omega) (by omega) (by omega) (by omega) (by omega)
              · have c_135 : w = 6 := (nI_eq (a := w) (b := 6) (by omega) (by omega)).mp (Classical.not_not.mp c_135)
                refine R_seg sg_97_138 sk_97_138 (pc' := 144) (lv' := [(4, .int (nI bv)), (3, .int (nI n)), (2, .int (nI dp)), (0, .ref 57), (1, .int ty)]) (st' := [.int (nI q), .int 2, .ref 57]) (S' := stt (up2 σ 57 33 (nI q)) τ) (kc' := 0) (ks' := 0) rfl ⟨trivial, trivial, trivial, rfl, trivial⟩ ?_
                refine R_virt ck_97_144 57 [.int 2, .int (nI q)] 0 0 (r := []) rfl rfl rfl (Nat.le_of_ble_eq_true rfl) (Nat.le_refl _) (Nat.le_refl _) ?_
                refine x_99 (d := d + 1) (fun _ => ?_) (fun zq => absurd hft zq)
                rw [show ((1 : Int32) + 4 * (nI q)) + 2 = nI (1 + 4 * q + 2) from by simp only [nl_0, nl_1, nl_2, nl_3, nl_4, nl_5, nl_6, nl_8, nl_20, nl_31, nl_32, pk_mul, nI_add]]
                show RU_97 (d + 2) (0, 0) Post 147 ([(4, .int (nI bv)), (3, .int (nI n)), (2, .int (nI dp)), (0, .ref 57), (1, .int ty)]) ([]) (stt (up2 (up2 σ 57 33 (nI q)) 57 34 (nI (1 + 4 * q + 2))) τ) 0 0
                refine R_goto ck_97_147 ?_
                refine R_goto ck_97_306 ?_
                refine Runs.lv (lv := [(2, .int (nI dp)), (0, .ref 57), (1, .int ty)]) ?_ _ (lvS_l (show ([2, 0, 1] : List Nat).Nodup from by decide) (by intro q hq; simp only [List.mem_cons, List.not_mem_nil, or_false] at hq; rcases hq with rfl | rfl | rfl <;> rfl))
                refine s_97f (fun zq => ?_) ?_
                · exact nI_ne0 (by omega) (by omega) zq
                · exact hF2 (by omega) (by omega) (by omega)
            · have c_112 : 51 < bv := Nat.not_le.mp (fun zq => c_112 ((nI_leI (a := bv) (b := 51) (by omega) (by omega)).mpr zq))
              refine R_seg sg_97_115 sk_97_115 (pc' := 121) (lv' := [(4, .int (nI bv)), (3, .int (nI n)), (2, .int (nI dp)), (0, .ref 57), (1, .int ty)]) (st' := [.int (nI q), .int 0, .ref 57]) (S' := stt (up2 σ 57 33 (nI q)) τ) (kc' := 0) (ks' := 0) rfl ⟨trivial, trivial, trivial, rfl, trivial⟩ ?_
              refine R_virt ck_97_121 57 [.int 0, .int (nI q)] 0 0 (r := []) rfl rfl rfl (Nat.le_of_ble_eq_true rfl) (Nat.le_refl _) (Nat.le_refl _) ?_
              refine x_99 (d := d + 1) (fun _ => ?_) (fun zq => absurd hft zq)
              rw [show ((1 : Int32) + 4 * (nI q)) + 0 = nI (1 + 4 * q + 0) from by simp only [nl_0, nl_1, nl_2, nl_3, nl_4, nl_5, nl_6, nl_8, nl_20, nl_31, nl_32, pk_mul, nI_add]]
              show RU_97 (d + 2) (0, 0) Post 124 ([(4, .int (nI bv)), (3, .int (nI n)), (2, .int (nI dp)), (0, .ref 57), (1, .int ty)]) ([]) (stt (up2 (up2 σ 57 33 (nI q)) 57 34 (nI (1 + 4 * q + 0))) τ) 0 0
              refine R_goto ck_97_124 ?_
              refine R_goto ck_97_306 ?_
              refine Runs.lv (lv := [(2, .int (nI dp)), (0, .ref 57), (1, .int ty)]) ?_ _ (lvS_l (show ([2, 0, 1] : List Nat).Nodup from by decide) (by intro q hq; simp only [List.mem_cons, List.not_mem_nil, or_false] at hq; rcases hq with rfl | rfl | rfl <;> rfl))
              refine s_97f (fun zq => ?_) ?_
              · exact nI_ne0 (by omega) (by omega) zq
              · exact hF0 (by omega)
        · have c_82 : 0 < w := Nat.not_le.mp (fun zq => c_82 ((nI_leI (a := w) (b := 0) (by omega) (by omega)).mpr zq))
          refine R_seg sg_97_85 sk_97_85 (pc' := 98) (lv' := [(2, .int ((nI dp) + (-1))), (4, .int (nI bv)), (3, .int (nI n)), (0, .ref 57), (1, .int ty)]) (st' := []) (S' := stt (up2 (up2 σ 57 33 (nI q)) 57 33 ((nI q) + 1)) τ) (kc' := 0) (ks' := 0) rfl ⟨(by decide), trivial, rfl, rfl, trivial, trivial, ⟨rfl, ⟨rfl, rfl⟩⟩, trivial⟩ ?_
          rw [show nI dp + (-1) = nI (dp - 1) from decp (by omega)]
          refine R_goto ck_97_98 ?_
          refine R_goto ck_97_306 ?_
          refine Runs.lv (lv := [(2, .int (nI (dp - 1))), (0, .ref 57), (1, .int ty)]) ?_ _ (lvS_l (show ([2, 0, 1] : List Nat).Nodup from by decide) (by intro q hq; simp only [List.mem_cons, List.not_mem_nil, or_false] at hq; rcases hq with rfl | rfl | rfl <;> rfl))
          exact hC (by omega) (by omega)
