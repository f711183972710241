/-! ===== AnswerDoorModel: plain methods ===== -/
def m_helper (σ : Nat → Nat → Int32) (h dl bt rt fl wt : Nat) : Nat → Nat → Int32 := up2 (up2 (up2 (up2 (up2 (up2 (up2 σ 58 h (nI dl)) 59 h (nI bt)) 60 h (nI rt)) 61 h (nI fl)) 62 h (nI wt)) 63 h 0) 64 h (-1)
set_option maxRecDepth 20000 in
theorem x_80 {d : Nat} {σ : Nat → Nat → Int32} {τ : Nat → Nat → Int64} {x1 x2 x3 x4 x5 x6 : Int32} {Post : Option Value → Sto → Prop} (hs : ∀ h dl bt rt fl wt : Nat, h < 5 → 1 ≤ dl → dl ≤ 9 → 1 ≤ bt → bt ≤ 8 → 1 ≤ rt → rt ≤ 8 → fl ≤ 9 → 1 ≤ wt → wt ≤ 99 → x1 = nI h → x2 = nI dl → x3 = nI bt → x4 = nI rt → x5 = nI fl → x6 = nI wt → Post (some (.int 1)) (stt (m_helper σ h dl bt rt fl wt) τ)) (hf : ¬ (rg x1 0 4 ∧ rg x2 1 9 ∧ rg x3 1 8 ∧ rg x4 1 8 ∧ rg x5 0 9 ∧ rg x6 1 99) → Post (some (.int 0)) (stt σ τ)) : Ex (d + 2) 80 [.ref 57, .int x1, .int x2, .int x3, .int x4, .int x5, .int x6] (stt σ τ) 0 0 Post := by
  refine en_80 (Nat.le_of_ble_eq_true rfl) ?_
  show RU_80 (d + 1) (0, 0) Post 0 ([(0, .ref 57), (1, .int x1), (2, .int x2), (3, .int x3), (4, .int x4), (5, .int x5), (6, .int x6)]) ([]) (stt σ τ) 0 0
  refine R_seg sg_80_0 sk_80_0 (pc' := 3) (lv' := [(0, .ref 57), (1, .int x1), (2, .int x2), (3, .int x3), (4, .int x4), (5, .int x5), (6, .int x6)]) (st' := [.int 4, .int 0, .int x1]) (S' := stt σ τ) (kc' := 0) (ks' := 0) rfl ⟨trivial, trivial, trivial, trivial⟩ ?_
  refine R_stat ck_80_3 (by decide) [.int x1, .int 0, .int 4] 0 0 (r := []) rfl rfl (Nat.le_of_ble_eq_true rfl) (Nat.le_refl _) (Nat.le_refl _) ?_
  refine xn_81 (d := d) 0 4 (by omega) (by omega) (fun h l_h u_h e_h => ?_) (fun n_h => ?_)
  · subst e_h
    show RU_80 (d + 1) (0, 0) Post 6 ([(0, .ref 57), (1, .int (nI h)), (2, .int x2), (3, .int x3), (4, .int x4), (5, .int x5), (6, .int x6)]) ([.int 1]) (stt σ τ) 0 0
    refine R_if ck_80_6 (fun c => absurd c (show ¬ (1 : Int32) = 0 from by decide)) (fun _ => ?_)
    refine R_seg sg_80_9 sk_80_9 (pc' := 13) (lv' := [(0, .ref 57), (1, .int (nI h)), (2, .int x2), (3, .int x3), (4, .int x4), (5, .int x5), (6, .int x6)]) (st' := [.int 9, .int 1, .int x2]) (S' := stt σ τ) (kc' := 0) (ks' := 0) rfl ⟨trivial, trivial, trivial, trivial⟩ ?_
    refine R_stat ck_80_13 (by decide) [.int x2, .int 1, .int 9] 0 0 (r := []) rfl rfl (Nat.le_of_ble_eq_true rfl) (Nat.le_refl _) (Nat.le_refl _) ?_
    refine xn_81 (d := d) 1 9 (by omega) (by omega) (fun dl l_dl u_dl e_dl => ?_) (fun n_dl => ?_)
    · subst e_dl
      show RU_80 (d + 1) (0, 0) Post 16 ([(0, .ref 57), (1, .int (nI h)), (2, .int (nI dl)), (3, .int x3), (4, .int x4), (5, .int x5), (6, .int x6)]) ([.int 1]) (stt σ τ) 0 0
      refine R_if ck_80_16 (fun c => absurd c (show ¬ (1 : Int32) = 0 from by decide)) (fun _ => ?_)
      refine R_seg sg_80_19 sk_80_19 (pc' := 23) (lv' := [(0, .ref 57), (1, .int (nI h)), (2, .int (nI dl)), (3, .int x3), (4, .int x4), (5, .int x5), (6, .int x6)]) (st' := [.int 8, .int 1, .int x3]) (S' := stt σ τ) (kc' := 0) (ks' := 0) rfl ⟨trivial, trivial, trivial, trivial⟩ ?_
      refine R_stat ck_80_23 (by decide) [.int x3, .int 1, .int 8] 0 0 (r := []) rfl rfl (Nat.le_of_ble_eq_true rfl) (Nat.le_refl _) (Nat.le_refl _) ?_
      refine xn_81 (d := d) 1 8 (by omega) (by omega) (fun bt l_bt u_bt e_bt => ?_) (fun n_bt => ?_)
      · subst e_bt
        show RU_80 (d + 1) (0, 0) Post 26 ([(0, .ref 57), (1, .int (nI h)), (2, .int (nI dl)), (3, .int (nI bt)), (4, .int x4), (5, .int x5), (6, .int x6)]) ([.int 1]) (stt σ τ) 0 0
        refine R_if ck_80_26 (fun c => absurd c (show ¬ (1 : Int32) = 0 from by decide)) (fun _ => ?_)
        refine R_seg sg_80_29 sk_80_29 (pc' := 34) (lv' := [(0, .ref 57), (1, .int (nI h)), (2, .int (nI dl)), (3, .int (nI bt)), (4, .int x4), (5, .int x5), (6, .int x6)]) (st' := [.int 8, .int 1, .int x4]) (S' := stt σ τ) (kc' := 0) (ks' := 0) rfl ⟨trivial, trivial, trivial, trivial⟩ ?_
        refine R_stat ck_80_34 (by decide) [.int x4, .int 1, .int 8] 0 0 (r := []) rfl rfl (Nat.le_of_ble_eq_true rfl) (Nat.le_refl _) (Nat.le_refl _) ?_
        refine xn_81 (d := d) 1 8 (by omega) (by omega) (fun rt l_rt u_rt e_rt => ?_) (fun n_rt => ?_)
        · subst e_rt
          show RU_80 (d + 1) (0, 0) Post 37 ([(0, .ref 57), (1, .int (nI h)), (2, .int (nI dl)), (3, .int (nI bt)), (4, .int (nI rt)), (5, .int x5), (6, .int x6)]) ([.int 1]) (stt σ τ) 0 0
          refine R_if ck_80_37 (fun c => absurd c (show ¬ (1 : Int32) = 0 from by decide)) (fun _ => ?_)
          refine R_seg sg_80_40 sk_80_40 (pc' := 45) (lv' := [(0, .ref 57), (1, .int (nI h)), (2, .int (nI dl)), (3, .int (nI bt)), (4, .int (nI rt)), (5, .int x5), (6, .int x6)]) (st' := [.int 9, .int 0, .int x5]) (S' := stt σ τ) (kc' := 0) (ks' := 0) rfl ⟨trivial, trivial, trivial, trivial⟩ ?_
          refine R_stat ck_80_45 (by decide) [.int x5, .int 0, .int 9] 0 0 (r := []) rfl rfl (Nat.le_of_ble_eq_true rfl) (Nat.le_refl _) (Nat.le_refl _) ?_
          refine xn_81 (d := d) 0 9 (by omega) (by omega) (fun fl l_fl u_fl e_fl => ?_) (fun n_fl => ?_)
          · subst e_fl
            show RU_80 (d + 1) (0, 0) Post 48 ([(0, .ref 57), (1, .int (nI h)), (2, .int (nI dl)), (3, .int (nI bt)), (4, .int (nI rt)), (5, .int (nI fl)), (6, .int x6)]) ([.int 1]) (stt σ τ) 0 0
            refine R_if ck_80_48 (fun c => absurd c (show ¬ (1 : Int32) = 0 from by decide)) (fun _ => ?_)
            refine R_seg sg_80_51 sk_80_51 (pc' := 56) (lv' := [(0, .ref 57), (1, .int (nI h)), (2, .int (nI dl)), (3, .int (nI bt)), (4, .int (nI rt)), (5, .int (nI fl)), (6, .int x6)]) (st' := [.int 99, .int 1, .int x6]) (S' := stt σ τ) (kc' := 0) (ks' := 0) rfl ⟨trivial, trivial, trivial, trivial⟩ ?_
            refine R_stat ck_80_56 (by decide) [.int x6, .int 1, .int 99] 0 0 (r := []) rfl rfl (Nat.le_of_ble_eq_true rfl) (Nat.le_refl _) (Nat.le_refl _) ?_
            refine xn_81 (d := d) 1 99 (by omega) (by omega) (fun wt l_wt u_wt e_wt => ?_) (fun n_wt => ?_)
            · subst e_wt
              show RU_80 (d + 1) (0, 0) Post 59 ([(0, .ref 57), (1, .int (nI h)), (2, .int (nI dl)), (3, .int (nI bt)), (4, .int (nI rt)), (5, .int (nI fl)), (6, .int (nI wt))]) ([.int 1]) (stt σ τ) 0 0
              refine R_if ck_80_59 (fun _ => ?_) (fun c => absurd (show ¬ (1 : Int32) = 0 from by decide) c)
              refine R_seg sg_80_64 sk_80_64 (pc' := 70) (lv' := [(0, .ref 57), (1, .int (nI h)), (2, .int (nI dl)), (3, .int (nI bt)), (4, .int (nI rt)), (5, .int (nI fl)), (6, .int (nI wt))]) (st' := [.int (nI dl), .int (nI h), .ref 58]) (S' := stt σ τ) (kc' := 0) (ks' := 0) rfl ⟨trivial, rfl, trivial, trivial, trivial⟩ ?_
              refine R_iast ca_80_70 (j := h) rfl rfl (by omega) ?_
              refine R_seg sg_80_71 sk_80_71 (pc' := 77) (lv' := [(0, .ref 57), (1, .int (nI h)), (2, .int (nI dl)), (3, .int (nI bt)), (4, .int (nI rt)), (5, .int (nI fl)), (6, .int (nI wt))]) (st' := [.int (nI bt), .int (nI h), .ref 59]) (S' := stt (up2 σ 58 h (nI dl)) τ) (kc' := 0) (ks' := 0) rfl ⟨trivial, rfl, trivial, trivial, trivial⟩ ?_
              refine R_iast ca_80_77 (j := h) rfl rfl (by omega) ?_
              refine R_seg sg_80_78 sk_80_78 (pc' := 85) (lv' := [(0, .ref 57), (1, .int (nI h)), (2, .int (nI dl)), (3, .int (nI bt)), (4, .int (nI rt)), (5, .int (nI fl)), (6, .int (nI wt))]) (st' := [.int (nI rt), .int (nI h), .ref 60]) (S' := stt (up2 (up2 σ 58 h (nI dl)) 59 h (nI bt)) τ) (kc' := 0) (ks' := 0) rfl ⟨trivial, rfl, trivial, trivial, trivial⟩ ?_
              refine R_iast ca_80_85 (j := h) rfl rfl (by omega) ?_
              refine R_seg sg_80_86 sk_80_86 (pc' := 93) (lv' := [(0, .ref 57), (1, .int (nI h)), (2, .int (nI dl)), (3, .int (nI bt)), (4, .int (nI rt)), (5, .int (nI fl)), (6, .int (nI wt))]) (st' := [.int (nI fl), .int (nI h), .ref 61]) (S' := stt (up2 (up2 (up2 σ 58 h (nI dl)) 59 h (nI bt)) 60 h (nI rt)) τ) (kc' := 0) (ks' := 0) rfl ⟨trivial, rfl, trivial, trivial, trivial⟩ ?_
              refine R_iast ca_80_93 (j := h) rfl rfl (by omega) ?_
              refine R_seg sg_80_94 sk_80_94 (pc' := 101) (lv' := [(0, .ref 57), (1, .int (nI h)), (2, .int (nI dl)), (3, .int (nI bt)), (4, .int (nI rt)), (5, .int (nI fl)), (6, .int (nI wt))]) (st' := [.int (nI wt), .int (nI h), .ref 62]) (S' := stt (up2 (up2 (up2 (up2 σ 58 h (nI dl)) 59 h (nI bt)) 60 h (nI rt)) 61 h (nI fl)) τ) (kc' := 0) (ks' := 0) rfl ⟨trivial, rfl, trivial, trivial, trivial⟩ ?_
              refine R_iast ca_80_101 (j := h) rfl rfl (by omega) ?_
              refine R_seg sg_80_102 sk_80_102 (pc' := 108) (lv' := [(0, .ref 57), (1, .int (nI h)), (2, .int (nI dl)), (3, .int (nI bt)), (4, .int (nI rt)), (5, .int (nI fl)), (6, .int (nI wt))]) (st' := [.int 0, .int (nI h), .ref 63]) (S' := stt (up2 (up2 (up2 (up2 (up2 σ 58 h (nI dl)) 59 h (nI bt)) 60 h (nI rt)) 61 h (nI fl)) 62 h (nI wt)) τ) (kc' := 0) (ks' := 0) rfl ⟨trivial, rfl, trivial, trivial, trivial⟩ ?_
              refine R_iast ca_80_108 (j := h) rfl rfl (by omega) ?_
              refine R_seg sg_80_109 sk_80_109 (pc' := 115) (lv' := [(0, .ref 57), (1, .int (nI h)), (2, .int (nI dl)), (3, .int (nI bt)), (4, .int (nI rt)), (5, .int (nI fl)), (6, .int (nI wt))]) (st' := [.int (-1), .int (nI h), .ref 64]) (S' := stt (up2 (up2 (up2 (up2 (up2 (up2 σ 58 h (nI dl)) 59 h (nI bt)) 60 h (nI rt)) 61 h (nI fl)) 62 h (nI wt)) 63 h 0) τ) (kc' := 0) (ks' := 0) rfl ⟨trivial, rfl, trivial, trivial, trivial⟩ ?_
              refine R_iast ca_80_115 (j := h) rfl rfl (by omega) ?_
              refine R_seg sg_80_116 sk_80_116 (pc' := 117) (lv' := [(0, .ref 57), (1, .int (nI h)), (2, .int (nI dl)), (3, .int (nI bt)), (4, .int (nI rt)), (5, .int (nI fl)), (6, .int (nI wt))]) (st' := [.int 1]) (S' := stt (up2 (up2 (up2 (up2 (up2 (up2 (up2 σ 58 h (nI dl)) 59 h (nI bt)) 60 h (nI rt)) 61 h (nI fl)) 62 h (nI wt)) 63 h 0) 64 h (-1)) τ) (kc' := 0) (ks' := 0) rfl ⟨trivial, trivial⟩ ?_
              refine R_iret ck_80_117 rfl rfl ?_
              exact hs h dl bt rt fl wt (by omega) (by omega) (by omega) (by omega) (by omega) (by omega) (by omega) (by omega) (by omega) (by omega) rfl rfl rfl rfl rfl rfl
            · show RU_80 (d + 1) (0, 0) Post 59 ([(0, .ref 57), (1, .int (nI h)), (2, .int (nI dl)), (3, .int (nI bt)), (4, .int (nI rt)), (5, .int (nI fl)), (6, .int x6)]) ([.int 0]) (stt σ τ) 0 0
              refine R_if ck_80_59 (fun c => absurd c (show ¬ ¬ (0 : Int32) = 0 from by decide)) (fun _ => ?_)
              refine R_seg sg_80_62 sk_80_62 (pc' := 63) (lv' := [(0, .ref 57), (1, .int (nI h)), (2, .int (nI dl)), (3, .int (nI bt)), (4, .int (nI rt)), (5, .int (nI fl)), (6, .int x6)]) (st' := [.int 0]) (S' := stt σ τ) (kc' := 0) (ks' := 0) rfl ⟨trivial, trivial⟩ ?_
              refine R_iret ck_80_63 rfl rfl ?_
              exact hf (fun q => by first | exact n_h q.1 | exact n_dl q.2.1 | exact n_bt q.2.2.1 | exact n_rt q.2.2.2.1 | exact n_fl q.2.2.2.2.1 | exact n_wt q.2.2.2.2.2)
          · show RU_80 (d + 1) (0, 0) Post 48 ([(0, .ref 57), (1, .int (nI h)), (2, .int (nI dl)), (3, .int (nI bt)), (4, .int (nI rt)), (5, .int x5), (6, .int x6)]) ([.int 0]) (stt σ τ) 0 0
            refine R_if ck_80_48 (fun _ => ?_) (fun c => absurd (show (0 : Int32) = 0 from by decide) c)
            refine R_seg sg_80_62 sk_80_62 (pc' := 63) (lv' := [(0, .ref 57), (1, .int (nI h)), (2, .int (nI dl)), (3, .int (nI bt)), (4, .int (nI rt)), (5, .int x5), (6, .int x6)]) (st' := [.int 0]) (S' := stt σ τ) (kc' := 0) (ks' := 0) rfl ⟨trivial, trivial⟩ ?_
            refine R_iret ck_80_63 rfl rfl ?_
            exact hf (fun q => by first | exact n_h q.1 | exact n_dl q.2.1 | exact n_bt q.2.2.1 | exact n_rt q.2.2.2.1 | exact n_fl q.2.2.2.2.1 | exact n_wt q.2.2.2.2.2)
        · show RU_80 (d + 1) (0, 0) Post 37 ([(0, .ref 57), (1, .int (nI h)), (2, .int (nI dl)), (3, .int (nI bt)), (4, .int x4), (5, .int x5), (6, .int x6)]) ([.int 0]) (stt σ τ) 0 0
          refine R_if ck_80_37 (fun _ => ?_) (fun c => absurd (show (0 : Int32) = 0 from by decide) c)
          refine R_seg sg_80_62 sk_80_62 (pc' := 63) (lv' := [(0, .ref 57), (1, .int (nI h)), (2, .int (nI dl)), (3, .int (nI bt)), (4, .int x4), (5, .int x5), (6, .int x6)]) (st' := [.int 0]) (S' := stt σ τ) (kc' := 0) (ks' := 0) rfl ⟨trivial, trivial⟩ ?_
          refine R_iret ck_80_63 rfl rfl ?_
          exact hf (fun q => by first | exact n_h q.1 | exact n_dl q.2.1 | exact n_bt q.2.2.1 | exact n_rt q.2.2.2.1 | exact n_fl q.2.2.2.2.1 | exact n_wt q.2.2.2.2.2)
      · show RU_80 (d + 1) (0, 0) Post 26 ([(0, .ref 57), (1, .int (nI h)), (2, .int (nI dl)), (3, .int x3), (4, .int x4), (5, .int x5), (6, .int x6)]) ([.int 0]) (stt σ τ) 0 0
        refine R_if ck_80_26 (fun _ => ?_) (fun c => absurd (show (0 : Int32) = 0 from by decide) c)
        refine R_seg sg_80_62 sk_80_62 (pc' := 63) (lv' := [(0, .ref 57), (1, .int (nI h)), (2, .int (nI dl)), (3, .int x3), (4, .int x4), (5, .int x5), (6, .int x6)]) (st' := [.int 0]) (S' := stt σ τ) (kc' := 0) (ks' := 0) rfl ⟨trivial, trivial⟩ ?_
        refine R_iret ck_80_63 rfl rfl ?_
        exact hf (fun q => by first | exact n_h q.1 | exact n_dl q.2.1 | exact n_bt q.2.2.1 | exact n_rt q.2.2.2.1 | exact n_fl q.2.2.2.2.1 | exact n_wt q.2.2.2.2.2)
    · show RU_80 (d + 1) (0, 0) Post 16 ([(0, .ref 57), (1, .int (nI h)), (2, .int x2), (3, .int x3), (4, .int x4), (5, .int x5), (6, .int x6)]) ([.int 0]) (stt σ τ) 0 0
      refine R_if ck_80_16 (fun _ => ?_) (fun c => absurd (show (0 : Int32) = 0 from by decide) c)
      refine R_seg sg_80_62 sk_80_62 (pc' := 63) (lv' := [(0, .ref 57), (1, .int (nI h)), (2, .int x2), (3, .int x3), (4, .int x4), (5, .int x5), (6, .int x6)]) (st' := [.int 0]) (S' := stt σ τ) (kc' := 0) (ks' := 0) rfl ⟨trivial, trivial⟩ ?_
      refine R_iret ck_80_63 rfl rfl ?_
      exact hf (fun q => by first | exact n_h q.1 | exact n_dl q.2.1 | exact n_bt q.2.2.1 | exact n_rt q.2.2.2.1 | exact n_fl q.2.2.2.2.1 | exact n_wt q.2.2.2.2.2)
  · show RU_80 (d + 1) (0, 0) Post 6 ([(0, .ref 57), (1, .int x1), (2, .int x2), (3, .int x3), (4, .int x4), (5, .int x5), (6, .int x6)]) ([.int 0]) (stt σ τ) 0 0
    refine R_if ck_80_6 (fun _ => ?_) (fun c => absurd (show (0 : Int32) = 0 from by decide) c)
    refine R_seg sg_80_62 sk_80_62 (pc' := 63) (lv' := [(0, .ref 57), (1, .int x1), (2, .int x2), (3, .int x3), (4, .int x4), (5, .int x5), (6, .int x6)]) (st' := [.int 0]) (S' := stt σ τ) (kc' := 0) (ks' := 0) rfl ⟨trivial, trivial⟩ ?_
    refine R_iret ck_80_63 rfl rfl ?_
    exact hf (fun q => by first | exact n_h q.1 | exact n_dl q.2.1 | exact n_bt q.2.2.1 | exact n_rt q.2.2.2.1 | exact n_fl q.2.2.2.2.1 | exact n_wt q.2.2.2.2.2)
def m_down (σ : Nat → Nat → Int32) (n : Nat) (h f t : Int32) : Nat → Nat → Int32 := up2 (up2 (up2 (up2 σ 66 n h) 67 n f) 68 n t) 57 10 (nI n + 1)
set_option maxRecDepth 20000 in
theorem x_82 {d : Nat} {σ : Nat → Nat → Int32} {τ : Nat → Nat → Int64} {x1 x2 x3 : Int32} {n : Nat} (hn : σ 57 10 = nI n) (hn20 : n ≤ 20) {Post : Option Value → Sto → Prop} (hs : ∀ h f t : Nat, h < 5 → f ≤ t → t ≤ 100000 → n < 20 → x1 = nI h → x2 = nI f → x3 = nI t → Post (some (.int (nI n + 1))) (stt (m_down σ n (nI h) (nI f) (nI t)) τ)) (hf : ¬ (rg x1 0 4 ∧ rg x3 0 100000 ∧ (∀ t, x3 = nI t → rg x2 0 t) ∧ n < 20) → Post (some (.int (-1))) (stt σ τ)) : Ex (d + 2) 82 [.ref 57, .int x1, .int x2, .int x3] (stt σ τ) 0 0 Post := by
  refine en_82 (Nat.le_of_ble_eq_true rfl) ?_
  show RU_82 (d + 1) (0, 0) Post 0 ([(0, .ref 57), (1, .int x1), (2, .int x2), (3, .int x3)]) ([]) (stt σ τ) 0 0
  refine R_seg sg_82_0 sk_82_0 (pc' := 6) (lv' := [(0, .ref 57), (1, .int x1), (2, .int x2), (3, .int x3)]) (st' := [.int 20, .int (σ 57 10)]) (S' := stt σ τ) (kc' := 0) (ks' := 0) rfl ⟨trivial, rfl, trivial, trivial⟩ ?_
  rw [hn]
  refine R_icmp ck_82_6 (fun (c_6 : (nI n) = 20) => ?_) (fun (c_6 : ¬ (nI n) = 20) => ?_)
  · have c_6 : n = 20 := (nI_eq (a := n) (b := 20) (by omega) (by omega)).mp c_6
    refine R_seg sg_82_38 sk_82_38 (pc' := 39) (lv' := [(0, .ref 57), (1, .int x1), (2, .int x2), (3, .int x3)]) (st' := [.int (-1)]) (S' := stt σ τ) (kc' := 0) (ks' := 0) rfl ⟨trivial, trivial⟩ ?_
    refine R_iret ck_82_39 rfl rfl ?_
    first | exact hf (fun q => n_h q.1) | exact hf (fun q => absurd q.2.2.2 (by omega)) | (refine hf (fun q => ?_); obtain ⟨t, -, t2, te⟩ := q.2.1; obtain ⟨f, f1, f2, fe⟩ := q.2.2.1 t te; exact n_f ⟨f, f1, by omega, fe⟩) | (refine hf (fun q => ?_); obtain ⟨t, -, t2, te⟩ := q.2.1; obtain ⟨f2, -, q1, q2⟩ := q.2.2.1 t te; have e := (nI_eq (by omega) (by omega)).mp q2; exact n_t ⟨t, by omega, by omega, te⟩)
  · have c_6 : ¬ n = 20 := fun q => c_6 ((nI_eq (a := n) (b := 20) (by omega) (by omega)).mpr q)
    refine R_seg sg_82_9 sk_82_9 (pc' := 12) (lv' := [(0, .ref 57), (1, .int x1), (2, .int x2), (3, .int x3)]) (st' := [.int 4, .int 0, .int x1]) (S' := stt σ τ) (kc' := 0) (ks' := 0) rfl ⟨trivial, trivial, trivial, trivial⟩ ?_
    refine R_stat ck_82_12 (by decide) [.int x1, .int 0, .int 4] 0 0 (r := []) rfl rfl (Nat.le_of_ble_eq_true rfl) (Nat.le_refl _) (Nat.le_refl _) ?_
    refine xn_81 (d := d) 0 4 (by omega) (by omega) (fun h l_h u_h e_h => ?_) (fun n_h => ?_)
    · subst e_h
      show RU_82 (d + 1) (0, 0) Post 15 ([(0, .ref 57), (1, .int (nI h)), (2, .int x2), (3, .int x3)]) ([.int 1]) (stt σ τ) 0 0
      refine R_if ck_82_15 (fun c => absurd c (show ¬ (1 : Int32) = 0 from by decide)) (fun _ => ?_)
      refine R_seg sg_82_18 sk_82_18 (pc' := 22) (lv' := [(0, .ref 57), (1, .int (nI h)), (2, .int x2), (3, .int x3)]) (st' := [.int 100000, .int 0, .int x2]) (S' := stt σ τ) (kc' := 0) (ks' := 0) rfl ⟨trivial, trivial, trivial, trivial⟩ ?_
      refine R_stat ck_82_22 (by decide) [.int x2, .int 0, .int 100000] 0 0 (r := []) rfl rfl (Nat.le_of_ble_eq_true rfl) (Nat.le_refl _) (Nat.le_refl _) ?_
      refine xn_81 (d := d) 0 100000 (by omega) (by omega) (fun f l_f u_f e_f => ?_) (fun n_f => ?_)
      · subst e_f
        show RU_82 (d + 1) (0, 0) Post 25 ([(0, .ref 57), (1, .int (nI h)), (2, .int (nI f)), (3, .int x3)]) ([.int 1]) (stt σ τ) 0 0
        refine R_if ck_82_25 (fun c => absurd c (show ¬ (1 : Int32) = 0 from by decide)) (fun _ => ?_)
        refine R_seg sg_82_28 sk_82_28 (pc' := 32) (lv' := [(0, .ref 57), (1, .int (nI h)), (2, .int (nI f)), (3, .int x3)]) (st' := [.int 100000, .int (nI f), .int x3]) (S' := stt σ τ) (kc' := 0) (ks' := 0) rfl ⟨trivial, trivial, trivial, trivial⟩ ?_
        refine R_stat ck_82_32 (by decide) [.int x3, .int (nI f), .int 100000] 0 0 (r := []) rfl rfl (Nat.le_of_ble_eq_true rfl) (Nat.le_refl _) (Nat.le_refl _) ?_
        refine xn_81 (d := d) f 100000 (by omega) (by omega) (fun t l_t u_t e_t => ?_) (fun n_t => ?_)
        · subst e_t
          show RU_82 (d + 1) (0, 0) Post 35 ([(0, .ref 57), (1, .int (nI h)), (2, .int (nI f)), (3, .int (nI t))]) ([.int 1]) (stt σ τ) 0 0
          refine R_if ck_82_35 (fun _ => ?_) (fun c => absurd (show ¬ (1 : Int32) = 0 from by decide) c)
          refine R_seg sg_82_40 sk_82_40 (pc' := 49) (lv' := [(0, .ref 57), (1, .int (nI h)), (2, .int (nI f)), (3, .int (nI t))]) (st' := [.int (nI h), .int (σ 57 10), .ref 66]) (S' := stt σ τ) (kc' := 0) (ks' := 0) rfl ⟨trivial, rfl, trivial, rfl, trivial, trivial⟩ ?_
          rw [hn]
          refine R_iast ca_82_49 (j := n) rfl rfl (by omega) ?_
          refine R_seg sg_82_50 sk_82_50 (pc' := 59) (lv' := [(0, .ref 57), (1, .int (nI h)), (2, .int (nI f)), (3, .int (nI t))]) (st' := [.int (nI f), .int (σ 57 10), .ref 67]) (S' := stt (up2 σ 66 n (nI h)) τ) (kc' := 0) (ks' := 0) rfl ⟨trivial, rfl, trivial, rfl, trivial, trivial⟩ ?_
          rw [hn]
          refine R_iast ca_82_59 (j := n) rfl rfl (by omega) ?_
          refine R_seg sg_82_60 sk_82_60 (pc' := 69) (lv' := [(0, .ref 57), (1, .int (nI h)), (2, .int (nI f)), (3, .int (nI t))]) (st' := [.int (nI t), .int (σ 57 10), .ref 68]) (S' := stt (up2 (up2 σ 66 n (nI h)) 67 n (nI f)) τ) (kc' := 0) (ks' := 0) rfl ⟨trivial, rfl, trivial, rfl, trivial, trivial⟩ ?_
          rw [hn]
          refine R_iast ca_82_69 (j := n) rfl rfl (by omega) ?_
          refine R_seg sg_82_70 sk_82_70 (pc' := 84) (lv' := [(0, .ref 57), (1, .int (nI h)), (2, .int (nI f)), (3, .int (nI t))]) (st' := [.int ((σ 57 10) + 1)]) (S' := stt (up2 (up2 (up2 (up2 σ 66 n (nI h)) 67 n (nI f)) 68 n (nI t)) 57 10 ((σ 57 10) + 1)) τ) (kc' := 0) (ks' := 0) rfl ⟨trivial, rfl, rfl, trivial, trivial, ⟨rfl, ⟨rfl, rfl⟩⟩, trivial, rfl, trivial⟩ ?_
          rw [hn]
          refine R_iret ck_82_84 rfl rfl ?_
          exact hs h f t (by omega) (by omega) (by omega) (by omega) rfl rfl rfl
        · show RU_82 (d + 1) (0, 0) Post 35 ([(0, .ref 57), (1, .int (nI h)), (2, .int (nI f)), (3, .int x3)]) ([.int 0]) (stt σ τ) 0 0
          refine R_if ck_82_35 (fun c => absurd c (show ¬ ¬ (0 : Int32) = 0 from by decide)) (fun _ => ?_)
          refine R_seg sg_82_38 sk_82_38 (pc' := 39) (lv' := [(0, .ref 57), (1, .int (nI h)), (2, .int (nI f)), (3, .int x3)]) (st' := [.int (-1)]) (S' := stt σ τ) (kc' := 0) (ks' := 0) rfl ⟨trivial, trivial⟩ ?_
          refine R_iret ck_82_39 rfl rfl ?_
          first | exact hf (fun q => n_h q.1) | exact hf (fun q => absurd q.2.2.2 (by omega)) | (refine hf (fun q => ?_); obtain ⟨t, -, t2, te⟩ := q.2.1; obtain ⟨f, f1, f2, fe⟩ := q.2.2.1 t te; exact n_f ⟨f, f1, by omega, fe⟩) | (refine hf (fun q => ?_); obtain ⟨t, -, t2, te⟩ := q.2.1; obtain ⟨f2, -, q1, q2⟩ := q.2.2.1 t te; have e := (nI_eq (by omega) (by omega)).mp q2; exact n_t ⟨t, by omega, by omega, te⟩)
      · show RU_82 (d + 1) (0, 0) Post 25 ([(0, .ref 57), (1, .int (nI h)), (2, .int x2), (3, .int x3)]) ([.int 0]) (stt σ τ) 0 0
        refine R_if ck_82_25 (fun _ => ?_) (fun c => absurd (show (0 : Int32) = 0 from by decide) c)
        refine R_seg sg_82_38 sk_82_38 (pc' := 39) (lv' := [(0, .ref 57), (1, .int (nI h)), (2, .int x2), (3, .int x3)]) (st' := [.int (-1)]) (S' := stt σ τ) (kc' := 0) (ks' := 0) rfl ⟨trivial, trivial⟩ ?_
        refine R_iret ck_82_39 rfl rfl ?_
        first | exact hf (fun q => n_h q.1) | exact hf (fun q => absurd q.2.2.2 (by omega)) | (refine hf (fun q => ?_); obtain ⟨t, -, t2, te⟩ := q.2.1; obtain ⟨f, f1, f2, fe⟩ := q.2.2.1 t te; exact n_f ⟨f, f1, by omega, fe⟩) | (refine hf (fun q => ?_); obtain ⟨t, -, t2, te⟩ := q.2.1; obtain ⟨f2, -, q1, q2⟩ := q.2.2.1 t te; have e := (nI_eq (by omega) (by omega)).mp q2; exact n_t ⟨t, by omega, by omega, te⟩)
    · show RU_82 (d + 1) (0, 0) Post 15 ([(0, .ref 57), (1, .int x1), (2, .int x2), (3, .int x3)]) ([.int 0]) (stt σ τ) 0 0
      refine R_if ck_82_15 (fun _ => ?_) (fun c => absurd (show (0 : Int32) = 0 from by decide) c)
      refine R_seg sg_82_38 sk_82_38 (pc' := 39) (lv' := [(0, .ref 57), (1, .int x1), (2, .int x2), (3, .int x3)]) (st' := [.int (-1)]) (S' := stt σ τ) (kc' := 0) (ks' := 0) rfl ⟨trivial, trivial⟩ ?_
      refine R_iret ck_82_39 rfl rfl ?_
      first | exact hf (fun q => n_h q.1) | exact hf (fun q => absurd q.2.2.2 (by omega)) | (refine hf (fun q => ?_); obtain ⟨t, -, t2, te⟩ := q.2.1; obtain ⟨f, f1, f2, fe⟩ := q.2.2.1 t te; exact n_f ⟨f, f1, by omega, fe⟩) | (refine hf (fun q => ?_); obtain ⟨t, -, t2, te⟩ := q.2.1; obtain ⟨f2, -, q1, q2⟩ := q.2.2.1 t te; have e := (nI_eq (by omega) (by omega)).mp q2; exact n_t ⟨t, by omega, by omega, te⟩)
def m_type (σ : Nat → Nat → Int32) (t h p l : Nat) : Nat → Nat → Int32 := fl2 (up2 (up2 (up2 σ 69 t (nI h)) 70 t (nI p)) 71 t (nI l)) 81 (t * 32) (t * 32 + 32) (-1)
set_option maxRecDepth 20000 in
theorem l_83 {d : Nat} {σ : Nat → Nat → Int32} {τ : Nat → Nat → Int64} {t h p l : Nat} (ht : t < 6) {Post : Option Value → Sto → Prop} (hp : Post (some (.int 1)) (stt (fl2 σ 81 (t * 32) (t * 32 + 32) (-1)) τ)) : ∀ (n : Nat) (i : Nat), i ≤ 32 → 32 - i < n → RU_83 d (0, 0) Post 67 [(5, .int (nI i)), (0, .ref 57), (1, .int (nI t)), (2, .int (nI h)), (3, .int (nI p)), (4, .int (nI l))] [] (stt (fl2 σ 81 (t * 32) (t * 32 + i) (-1)) τ) 0 0 := by
  intro n
  induction n with
  | zero => intro i h1 h2; exact absurd h2 (by omega)
  | succ n ih =>
    intro i h1 h2
    refine R_seg sg_83_67 sk_83_67 (pc' := 71) (lv' := [(5, .int (nI i)), (0, .ref 57), (1, .int (nI t)), (2, .int (nI h)), (3, .int (nI p)), (4, .int (nI l))]) (st' := [.int 32, .int (nI i)]) (S' := stt (fl2 σ 81 (t * 32) (t * 32 + i) (-1)) τ) (kc' := 0) (ks' := 0) rfl ⟨trivial, trivial, trivial⟩ ?_
    refine R_icmp ck_83_71 (fun (c_71 : 32 ≤ (nI i)) => ?_) (fun (c_71 : ¬ 32 ≤ (nI i)) => ?_)
    · have c_71 : 32 ≤ i := (nI_leI (a := 32) (b := i) (by omega) (by omega)).mp c_71
      refine R_seg sg_83_93 sk_83_93 (pc' := 94) (lv' := [(5, .int (nI i)), (0, .ref 57), (1, .int (nI t)), (2, .int (nI h)), (3, .int (nI p)), (4, .int (nI l))]) (st' := [.int 1]) (S' := stt (fl2 σ 81 (t * 32) (t * 32 + i) (-1)) τ) (kc' := 0) (ks' := 0) rfl ⟨trivial, trivial⟩ ?_
      refine R_iret ck_83_94 rfl rfl ?_
      have e : i = 32 := by omega
      subst e
      exact hp
    · have c_71 : i < 32 := Nat.not_le.mp (fun q => c_71 ((nI_leI (a := 32) (b := i) (by omega) (by omega)).mpr q))
      refine R_seg sg_83_74 sk_83_74 (pc' := 86) (lv' := [(5, .int (nI i)), (0, .ref 57), (1, .int (nI t)), (2, .int (nI h)), (3, .int (nI p)), (4, .int (nI l))]) (st' := [.int (-1), .int ((32 * (nI t)) + (nI i)), .ref 81]) (S' := stt (fl2 σ 81 (t * 32) (t * 32 + i) (-1)) τ) (kc' := 0) (ks' := 0) rfl ⟨trivial, rfl, trivial, trivial, trivial, trivial, trivial, trivial, trivial⟩ ?_
      refine R_iast ca_83_86 (j := t * 32 + i) rfl (by simp only [nl_0, nl_1, nl_2, nl_3, nl_4, nl_5, nl_6, nl_8, nl_20, nl_31, nl_32, pk_mul, nI_add]; congr 1; omega) (by omega) ?_
      refine R_seg sg_83_87 sk_83_87 (pc' := 90) (lv' := [(5, .int ((nI i) + 1)), (0, .ref 57), (1, .int (nI t)), (2, .int (nI h)), (3, .int (nI p)), (4, .int (nI l))]) (st' := []) (S' := stt (up2 (fl2 σ 81 (t * 32) (t * 32 + i) (-1)) 81 (t * 32 + i) (-1)) τ) (kc' := 0) (ks' := 0) rfl ⟨(by decide), trivial⟩ ?_
      refine R_goto ck_83_90 ?_
      rw [nI_1, fl2_s _ _ _ _ _ (by omega)]
      exact ih (i + 1) (by omega) (by omega)
set_option maxRecDepth 20000 in
theorem x_83 {d : Nat} {σ : Nat → Nat → Int32} {τ : Nat → Nat → Int64} {x1 x2 x3 x4 : Int32} {Post : Option Value → Sto → Prop} (hs : ∀ t h p l : Nat, t < 6 → h < 5 → 1 ≤ p → p ≤ 9 → l ≤ 999 → x1 = nI t → x2 = nI h → x3 = nI p → x4 = nI l → Post (some (.int 1)) (stt (m_type σ t h p l) τ)) (hf : ¬ (rg x1 0 5 ∧ rg x2 0 4 ∧ rg x3 1 9 ∧ rg x4 0 999) → Post (some (.int 0)) (stt σ τ)) : Ex (d + 2) 83 [.ref 57, .int x1, .int x2, .int x3, .int x4] (stt σ τ) 0 0 Post := by
  refine en_83 (Nat.le_of_ble_eq_true rfl) ?_
  show RU_83 (d + 1) (0, 0) Post 0 ([(0, .ref 57), (1, .int x1), (2, .int x2), (3, .int x3), (4, .int x4)]) ([]) (stt σ τ) 0 0
  refine R_seg sg_83_0 sk_83_0 (pc' := 3) (lv' := [(0, .ref 57), (1, .int x1), (2, .int x2), (3, .int x3), (4, .int x4)]) (st' := [.int 5, .int 0, .int x1]) (S' := stt σ τ) (kc' := 0) (ks' := 0) rfl ⟨trivial, trivial, trivial, trivial⟩ ?_
  refine R_stat ck_83_3 (by decide) [.int x1, .int 0, .int 5] 0 0 (r := []) rfl rfl (Nat.le_of_ble_eq_true rfl) (Nat.le_refl _) (Nat.le_refl _) ?_
  refine xn_81 (d := d) 0 5 (by omega) (by omega) (fun t l_t u_t e_t => ?_) (fun n_t => ?_)
  · subst e_t
    show RU_83 (d + 1) (0, 0) Post 6 ([(0, .ref 57), (1, .int (nI t)), (2, .int x2), (3, .int x3), (4, .int x4)]) ([.int 1]) (stt σ τ) 0 0
    refine R_if ck_83_6 (fun c => absurd c (show ¬ (1 : Int32) = 0 from by decide)) (fun _ => ?_)
    refine R_seg sg_83_9 sk_83_9 (pc' := 12) (lv' := [(0, .ref 57), (1, .int (nI t)), (2, .int x2), (3, .int x3), (4, .int x4)]) (st' := [.int 4, .int 0, .int x2]) (S' := stt σ τ) (kc' := 0) (ks' := 0) rfl ⟨trivial, trivial, trivial, trivial⟩ ?_
    refine R_stat ck_83_12 (by decide) [.int x2, .int 0, .int 4] 0 0 (r := []) rfl rfl (Nat.le_of_ble_eq_true rfl) (Nat.le_refl _) (Nat.le_refl _) ?_
    refine xn_81 (d := d) 0 4 (by omega) (by omega) (fun h l_h u_h e_h => ?_) (fun n_h => ?_)
    · subst e_h
      show RU_83 (d + 1) (0, 0) Post 15 ([(0, .ref 57), (1, .int (nI t)), (2, .int (nI h)), (3, .int x3), (4, .int x4)]) ([.int 1]) (stt σ τ) 0 0
      refine R_if ck_83_15 (fun c => absurd c (show ¬ (1 : Int32) = 0 from by decide)) (fun _ => ?_)
      refine R_seg sg_83_18 sk_83_18 (pc' := 22) (lv' := [(0, .ref 57), (1, .int (nI t)), (2, .int (nI h)), (3, .int x3), (4, .int x4)]) (st' := [.int 9, .int 1, .int x3]) (S' := stt σ τ) (kc' := 0) (ks' := 0) rfl ⟨trivial, trivial, trivial, trivial⟩ ?_
      refine R_stat ck_83_22 (by decide) [.int x3, .int 1, .int 9] 0 0 (r := []) rfl rfl (Nat.le_of_ble_eq_true rfl) (Nat.le_refl _) (Nat.le_refl _) ?_
      refine xn_81 (d := d) 1 9 (by omega) (by omega) (fun p l_p u_p e_p => ?_) (fun n_p => ?_)
      · subst e_p
        show RU_83 (d + 1) (0, 0) Post 25 ([(0, .ref 57), (1, .int (nI t)), (2, .int (nI h)), (3, .int (nI p)), (4, .int x4)]) ([.int 1]) (stt σ τ) 0 0
        refine R_if ck_83_25 (fun c => absurd c (show ¬ (1 : Int32) = 0 from by decide)) (fun _ => ?_)
        refine R_seg sg_83_28 sk_83_28 (pc' := 34) (lv' := [(0, .ref 57), (1, .int (nI t)), (2, .int (nI h)), (3, .int (nI p)), (4, .int x4)]) (st' := [.int 999, .int 0, .int x4]) (S' := stt σ τ) (kc' := 0) (ks' := 0) rfl ⟨trivial, trivial, trivial, trivial⟩ ?_
        refine R_stat ck_83_34 (by decide) [.int x4, .int 0, .int 999] 0 0 (r := []) rfl rfl (Nat.le_of_ble_eq_true rfl) (Nat.le_refl _) (Nat.le_refl _) ?_
        refine xn_81 (d := d) 0 999 (by omega) (by omega) (fun l l_l u_l e_l => ?_) (fun n_l => ?_)
        · subst e_l
          show RU_83 (d + 1) (0, 0) Post 37 ([(0, .ref 57), (1, .int (nI t)), (2, .int (nI h)), (3, .int (nI p)), (4, .int (nI l))]) ([.int 1]) (stt σ τ) 0 0
          refine R_if ck_83_37 (fun _ => ?_) (fun c => absurd (show ¬ (1 : Int32) = 0 from by decide) c)
          refine R_seg sg_83_42 sk_83_42 (pc' := 48) (lv' := [(0, .ref 57), (1, .int (nI t)), (2, .int (nI h)), (3, .int (nI p)), (4, .int (nI l))]) (st' := [.int (nI h), .int (nI t), .ref 69]) (S' := stt σ τ) (kc' := 0) (ks' := 0) rfl ⟨trivial, rfl, trivial, trivial, trivial⟩ ?_
          refine R_iast ca_83_48 (j := t) rfl rfl (by omega) ?_
          refine R_seg sg_83_49 sk_83_49 (pc' := 55) (lv' := [(0, .ref 57), (1, .int (nI t)), (2, .int (nI h)), (3, .int (nI p)), (4, .int (nI l))]) (st' := [.int (nI p), .int (nI t), .ref 70]) (S' := stt (up2 σ 69 t (nI h)) τ) (kc' := 0) (ks' := 0) rfl ⟨trivial, rfl, trivial, trivial, trivial⟩ ?_
          refine R_iast ca_83_55 (j := t) rfl rfl (by omega) ?_
          refine R_seg sg_83_56 sk_83_56 (pc' := 63) (lv' := [(0, .ref 57), (1, .int (nI t)), (2, .int (nI h)), (3, .int (nI p)), (4, .int (nI l))]) (st' := [.int (nI l), .int (nI t), .ref 71]) (S' := stt (up2 (up2 σ 69 t (nI h)) 70 t (nI p)) τ) (kc' := 0) (ks' := 0) rfl ⟨trivial, rfl, trivial, trivial, trivial⟩ ?_
          refine R_iast ca_83_63 (j := t) rfl rfl (by omega) ?_
          refine R_seg sg_83_64 sk_83_64 (pc' := 67) (lv' := [(5, .int 0), (0, .ref 57), (1, .int (nI t)), (2, .int (nI h)), (3, .int (nI p)), (4, .int (nI l))]) (st' := []) (S' := stt (up2 (up2 (up2 σ 69 t (nI h)) 70 t (nI p)) 71 t (nI l)) τ) (kc' := 0) (ks' := 0) rfl ⟨trivial, (by decide), trivial⟩ ?_
          have key := @l_83 (d + 1) (up2 (up2 (up2 σ 69 t (nI h)) 70 t (nI p)) 71 t (nI l)) τ t h p l (by omega) Post (hs t h p l (by omega) (by omega) (by omega) (by omega) (by omega) rfl rfl rfl rfl) 33 0 (by omega) (by omega)
          have e0 : fl2 (up2 (up2 (up2 σ 69 t (nI h)) 70 t (nI p)) 71 t (nI l)) 81 (t * 32) (t * 32 + 0) (-1) = (up2 (up2 (up2 σ 69 t (nI h)) 70 t (nI p)) 71 t (nI l)) := fl2_0 _ _ _ _
          rw [e0] at key
          exact key
        · show RU_83 (d + 1) (0, 0) Post 37 ([(0, .ref 57), (1, .int (nI t)), (2, .int (nI h)), (3, .int (nI p)), (4, .int x4)]) ([.int 0]) (stt σ τ) 0 0
          refine R_if ck_83_37 (fun c => absurd c (show ¬ ¬ (0 : Int32) = 0 from by decide)) (fun _ => ?_)
          refine R_seg sg_83_40 sk_83_40 (pc' := 41) (lv' := [(0, .ref 57), (1, .int (nI t)), (2, .int (nI h)), (3, .int (nI p)), (4, .int x4)]) (st' := [.int 0]) (S' := stt σ τ) (kc' := 0) (ks' := 0) rfl ⟨trivial, trivial⟩ ?_
          refine R_iret ck_83_41 rfl rfl ?_
          exact hf (fun q => by first | exact n_t q.1 | exact n_h q.2.1 | exact n_p q.2.2.1 | exact n_l q.2.2.2)
      · show RU_83 (d + 1) (0, 0) Post 25 ([(0, .ref 57), (1, .int (nI t)), (2, .int (nI h)), (3, .int x3), (4, .int x4)]) ([.int 0]) (stt σ τ) 0 0
        refine R_if ck_83_25 (fun _ => ?_) (fun c => absurd (show (0 : Int32) = 0 from by decide) c)
        refine R_seg sg_83_40 sk_83_40 (pc' := 41) (lv' := [(0, .ref 57), (1, .int (nI t)), (2, .int (nI h)), (3, .int x3), (4, .int x4)]) (st' := [.int 0]) (S' := stt σ τ) (kc' := 0) (ks' := 0) rfl ⟨trivial, trivial⟩ ?_
        refine R_iret ck_83_41 rfl rfl ?_
        exact hf (fun q => by first | exact n_t q.1 | exact n_h q.2.1 | exact n_p q.2.2.1 | exact n_l q.2.2.2)
    · show RU_83 (d + 1) (0, 0) Post 15 ([(0, .ref 57), (1, .int (nI t)), (2, .int x2), (3, .int x3), (4, .int x4)]) ([.int 0]) (stt σ τ) 0 0
      refine R_if ck_83_15 (fun _ => ?_) (fun c => absurd (show (0 : Int32) = 0 from by decide) c)
      refine R_seg sg_83_40 sk_83_40 (pc' := 41) (lv' := [(0, .ref 57), (1, .int (nI t)), (2, .int x2), (3, .int x3), (4, .int x4)]) (st' := [.int 0]) (S' := stt σ τ) (kc' := 0) (ks' := 0) rfl ⟨trivial, trivial⟩ ?_
      refine R_iret ck_83_41 rfl rfl ?_
      exact hf (fun q => by first | exact n_t q.1 | exact n_h q.2.1 | exact n_p q.2.2.1 | exact n_l q.2.2.2)
  · show RU_83 (d + 1) (0, 0) Post 6 ([(0, .ref 57), (1, .int x1), (2, .int x2), (3, .int x3), (4, .int x4)]) ([.int 0]) (stt σ τ) 0 0
    refine R_if ck_83_6 (fun _ => ?_) (fun c => absurd (show (0 : Int32) = 0 from by decide) c)
    refine R_seg sg_83_40 sk_83_40 (pc' := 41) (lv' := [(0, .ref 57), (1, .int x1), (2, .int x2), (3, .int x3), (4, .int x4)]) (st' := [.int 0]) (S' := stt σ τ) (kc' := 0) (ks' := 0) rfl ⟨trivial, trivial⟩ ?_
    refine R_iret ck_83_41 rfl rfl ?_
    exact hf (fun q => by first | exact n_t q.1 | exact n_h q.2.1 | exact n_p q.2.2.1 | exact n_l q.2.2.2)
def m_field (σ : Nat → Nat → Int32) (t f k o m : Nat) (b : Int32) : Nat → Nat → Int32 := up2 (up2 (up2 (up2 σ 72 (t * 4 + f) (nI k)) 73 (t * 4 + f) (nI o)) 74 (t * 4 + f) (nI m)) 75 (t * 4 + f) b
set_option maxRecDepth 20000 in
theorem x_84 {d : Nat} {σ : Nat → Nat → Int32} {τ : Nat → Nat → Int64} {x1 x2 x3 x4 x5 x6 : Int32} (hb : x6 = 0 ∨ x6 = 1) {Post : Option Value → Sto → Prop} (hs : ∀ t f k o m : Nat, t < 6 → f < 4 → k < 3 → o < 6 → 1 ≤ m → m ≤ 5 → x1 = nI t → x2 = nI f → x3 = nI k → x4 = nI o → x5 = nI m → Post (some (.int 1)) (stt (m_field σ t f k o m x6) τ)) (hf : ¬ (rg x1 0 5 ∧ rg x2 0 3 ∧ rg x3 0 2 ∧ rg x4 0 5 ∧ rg x5 1 5) → Post (some (.int 0)) (stt σ τ)) : Ex (d + 2) 84 [.ref 57, .int x1, .int x2, .int x3, .int x4, .int x5, .int x6] (stt σ τ) 0 0 Post := by
  refine en_84 (Nat.le_of_ble_eq_true rfl) ?_
  show RU_84 (d + 1) (0, 0) Post 0 ([(0, .ref 57), (1, .int x1), (2, .int x2), (3, .int x3), (4, .int x4), (5, .int x5), (6, .int x6)]) ([]) (stt σ τ) 0 0
  refine R_seg sg_84_0 sk_84_0 (pc' := 3) (lv' := [(0, .ref 57), (1, .int x1), (2, .int x2), (3, .int x3), (4, .int x4), (5, .int x5), (6, .int x6)]) (st' := [.int 5, .int 0, .int x1]) (S' := stt σ τ) (kc' := 0) (ks' := 0) rfl ⟨trivial, trivial, trivial, trivial⟩ ?_
  refine R_stat ck_84_3 (by decide) [.int x1, .int 0, .int 5] 0 0 (r := []) rfl rfl (Nat.le_of_ble_eq_true rfl) (Nat.le_refl _) (Nat.le_refl _) ?_
  refine xn_81 (d := d) 0 5 (by omega) (by omega) (fun t l_t u_t e_t => ?_) (fun n_t => ?_)
  · subst e_t
    show RU_84 (d + 1) (0, 0) Post 6 ([(0, .ref 57), (1, .int (nI t)), (2, .int x2), (3, .int x3), (4, .int x4), (5, .int x5), (6, .int x6)]) ([.int 1]) (stt σ τ) 0 0
    refine R_if ck_84_6 (fun c => absurd c (show ¬ (1 : Int32) = 0 from by decide)) (fun _ => ?_)
    refine R_seg sg_84_9 sk_84_9 (pc' := 12) (lv' := [(0, .ref 57), (1, .int (nI t)), (2, .int x2), (3, .int x3), (4, .int x4), (5, .int x5), (6, .int x6)]) (st' := [.int 3, .int 0, .int x2]) (S' := stt σ τ) (kc' := 0) (ks' := 0) rfl ⟨trivial, trivial, trivial, trivial⟩ ?_
    refine R_stat ck_84_12 (by decide) [.int x2, .int 0, .int 3] 0 0 (r := []) rfl rfl (Nat.le_of_ble_eq_true rfl) (Nat.le_refl _) (Nat.le_refl _) ?_
    refine xn_81 (d := d) 0 3 (by omega) (by omega) (fun f l_f u_f e_f => ?_) (fun n_f => ?_)
    · subst e_f
      show RU_84 (d + 1) (0, 0) Post 15 ([(0, .ref 57), (1, .int (nI t)), (2, .int (nI f)), (3, .int x3), (4, .int x4), (5, .int x5), (6, .int x6)]) ([.int 1]) (stt σ τ) 0 0
      refine R_if ck_84_15 (fun c => absurd c (show ¬ (1 : Int32) = 0 from by decide)) (fun _ => ?_)
      refine R_seg sg_84_18 sk_84_18 (pc' := 21) (lv' := [(0, .ref 57), (1, .int (nI t)), (2, .int (nI f)), (3, .int x3), (4, .int x4), (5, .int x5), (6, .int x6)]) (st' := [.int 2, .int 0, .int x3]) (S' := stt σ τ) (kc' := 0) (ks' := 0) rfl ⟨trivial, trivial, trivial, trivial⟩ ?_
      refine R_stat ck_84_21 (by decide) [.int x3, .int 0, .int 2] 0 0 (r := []) rfl rfl (Nat.le_of_ble_eq_true rfl) (Nat.le_refl _) (Nat.le_refl _) ?_
      refine xn_81 (d := d) 0 2 (by omega) (by omega) (fun k l_k u_k e_k => ?_) (fun n_k => ?_)
      · subst e_k
        show RU_84 (d + 1) (0, 0) Post 24 ([(0, .ref 57), (1, .int (nI t)), (2, .int (nI f)), (3, .int (nI k)), (4, .int x4), (5, .int x5), (6, .int x6)]) ([.int 1]) (stt σ τ) 0 0
        refine R_if ck_84_24 (fun c => absurd c (show ¬ (1 : Int32) = 0 from by decide)) (fun _ => ?_)
        refine R_seg sg_84_27 sk_84_27 (pc' := 31) (lv' := [(0, .ref 57), (1, .int (nI t)), (2, .int (nI f)), (3, .int (nI k)), (4, .int x4), (5, .int x5), (6, .int x6)]) (st' := [.int 5, .int 0, .int x4]) (S' := stt σ τ) (kc' := 0) (ks' := 0) rfl ⟨trivial, trivial, trivial, trivial⟩ ?_
        refine R_stat ck_84_31 (by decide) [.int x4, .int 0, .int 5] 0 0 (r := []) rfl rfl (Nat.le_of_ble_eq_true rfl) (Nat.le_refl _) (Nat.le_refl _) ?_
        refine xn_81 (d := d) 0 5 (by omega) (by omega) (fun o l_o u_o e_o => ?_) (fun n_o => ?_)
        · subst e_o
          show RU_84 (d + 1) (0, 0) Post 34 ([(0, .ref 57), (1, .int (nI t)), (2, .int (nI f)), (3, .int (nI k)), (4, .int (nI o)), (5, .int x5), (6, .int x6)]) ([.int 1]) (stt σ τ) 0 0
          refine R_if ck_84_34 (fun c => absurd c (show ¬ (1 : Int32) = 0 from by decide)) (fun _ => ?_)
          refine R_seg sg_84_37 sk_84_37 (pc' := 41) (lv' := [(0, .ref 57), (1, .int (nI t)), (2, .int (nI f)), (3, .int (nI k)), (4, .int (nI o)), (5, .int x5), (6, .int x6)]) (st' := [.int 5, .int 1, .int x5]) (S' := stt σ τ) (kc' := 0) (ks' := 0) rfl ⟨trivial, trivial, trivial, trivial⟩ ?_
          refine R_stat ck_84_41 (by decide) [.int x5, .int 1, .int 5] 0 0 (r := []) rfl rfl (Nat.le_of_ble_eq_true rfl) (Nat.le_refl _) (Nat.le_refl _) ?_
          refine xn_81 (d := d) 1 5 (by omega) (by omega) (fun m l_m u_m e_m => ?_) (fun n_m => ?_)
          · subst e_m
            show RU_84 (d + 1) (0, 0) Post 44 ([(0, .ref 57), (1, .int (nI t)), (2, .int (nI f)), (3, .int (nI k)), (4, .int (nI o)), (5, .int (nI m)), (6, .int x6)]) ([.int 1]) (stt σ τ) 0 0
            refine R_if ck_84_44 (fun _ => ?_) (fun c => absurd (show ¬ (1 : Int32) = 0 from by decide) c)
            refine R_seg sg_84_49 sk_84_49 (pc' := 59) (lv' := [(0, .ref 57), (1, .int (nI t)), (2, .int (nI f)), (3, .int (nI k)), (4, .int (nI o)), (5, .int (nI m)), (6, .int x6)]) (st' := [.int (nI k), .int ((4 * (nI t)) + (nI f)), .ref 72]) (S' := stt σ τ) (kc' := 0) (ks' := 0) rfl ⟨trivial, rfl, trivial, trivial, trivial, trivial, trivial, trivial, trivial⟩ ?_
            refine R_iast ca_84_59 (j := t * 4 + f) rfl (by simp only [nl_0, nl_1, nl_2, nl_3, nl_4, nl_5, nl_6, nl_8, nl_20, nl_31, nl_32, pk_mul, nI_add]; congr 1; omega) (by omega) ?_
            refine R_seg sg_84_60 sk_84_60 (pc' := 71) (lv' := [(0, .ref 57), (1, .int (nI t)), (2, .int (nI f)), (3, .int (nI k)), (4, .int (nI o)), (5, .int (nI m)), (6, .int x6)]) (st' := [.int (nI o), .int ((4 * (nI t)) + (nI f)), .ref 73]) (S' := stt (up2 σ 72 (t * 4 + f) (nI k)) τ) (kc' := 0) (ks' := 0) rfl ⟨trivial, rfl, trivial, trivial, trivial, trivial, trivial, trivial, trivial⟩ ?_
            refine R_iast ca_84_71 (j := t * 4 + f) rfl (by simp only [nl_0, nl_1, nl_2, nl_3, nl_4, nl_5, nl_6, nl_8, nl_20, nl_31, nl_32, pk_mul, nI_add]; congr 1; omega) (by omega) ?_
            refine R_seg sg_84_72 sk_84_72 (pc' := 83) (lv' := [(0, .ref 57), (1, .int (nI t)), (2, .int (nI f)), (3, .int (nI k)), (4, .int (nI o)), (5, .int (nI m)), (6, .int x6)]) (st' := [.int (nI m), .int ((4 * (nI t)) + (nI f)), .ref 74]) (S' := stt (up2 (up2 σ 72 (t * 4 + f) (nI k)) 73 (t * 4 + f) (nI o)) τ) (kc' := 0) (ks' := 0) rfl ⟨trivial, rfl, trivial, trivial, trivial, trivial, trivial, trivial, trivial⟩ ?_
            refine R_iast ca_84_83 (j := t * 4 + f) rfl (by simp only [nl_0, nl_1, nl_2, nl_3, nl_4, nl_5, nl_6, nl_8, nl_20, nl_31, nl_32, pk_mul, nI_add]; congr 1; omega) (by omega) ?_
            refine R_seg sg_84_84 sk_84_84 (pc' := 95) (lv' := [(0, .ref 57), (1, .int (nI t)), (2, .int (nI f)), (3, .int (nI k)), (4, .int (nI o)), (5, .int (nI m)), (6, .int x6)]) (st' := [.int x6, .int ((4 * (nI t)) + (nI f)), .ref 75]) (S' := stt (up2 (up2 (up2 σ 72 (t * 4 + f) (nI k)) 73 (t * 4 + f) (nI o)) 74 (t * 4 + f) (nI m)) τ) (kc' := 0) (ks' := 0) rfl ⟨trivial, rfl, trivial, trivial, trivial, trivial, trivial, trivial, trivial⟩ ?_
            refine R_zast ca_84_95 (j := t * 4 + f) rfl (by simp only [nl_0, nl_1, nl_2, nl_3, nl_4, nl_5, nl_6, nl_8, nl_20, nl_31, nl_32, pk_mul, nI_add]; congr 1; omega) (by omega) (vz hb) ?_
            refine R_seg sg_84_96 sk_84_96 (pc' := 97) (lv' := [(0, .ref 57), (1, .int (nI t)), (2, .int (nI f)), (3, .int (nI k)), (4, .int (nI o)), (5, .int (nI m)), (6, .int x6)]) (st' := [.int 1]) (S' := stt (up2 (up2 (up2 (up2 σ 72 (t * 4 + f) (nI k)) 73 (t * 4 + f) (nI o)) 74 (t * 4 + f) (nI m)) 75 (t * 4 + f) x6) τ) (kc' := 0) (ks' := 0) rfl ⟨trivial, trivial⟩ ?_
            refine R_iret ck_84_97 rfl rfl ?_
            exact hs t f k o m (by omega) (by omega) (by omega) (by omega) (by omega) (by omega) rfl rfl rfl rfl rfl
          · show RU_84 (d + 1) (0, 0) Post 44 ([(0, .ref 57), (1, .int (nI t)), (2, .int (nI f)), (3, .int (nI k)), (4, .int (nI o)), (5, .int x5), (6, .int x6)]) ([.int 0]) (stt σ τ) 0 0
            refine R_if ck_84_44 (fun c => absurd c (show ¬ ¬ (0 : Int32) = 0 from by decide)) (fun _ => ?_)
            refine R_seg sg_84_47 sk_84_47 (pc' := 48) (lv' := [(0, .ref 57), (1, .int (nI t)), (2, .int (nI f)), (3, .int (nI k)), (4, .int (nI o)), (5, .int x5), (6, .int x6)]) (st' := [.int 0]) (S' := stt σ τ) (kc' := 0) (ks' := 0) rfl ⟨trivial, trivial⟩ ?_
            refine R_iret ck_84_48 rfl rfl ?_
            exact hf (fun q => by first | exact n_t q.1 | exact n_f q.2.1 | exact n_k q.2.2.1 | exact n_o q.2.2.2.1 | exact n_m q.2.2.2.2)
        · show RU_84 (d + 1) (0, 0) Post 34 ([(0, .ref 57), (1, .int (nI t)), (2, .int (nI f)), (3, .int (nI k)), (4, .int x4), (5, .int x5), (6, .int x6)]) ([.int 0]) (stt σ τ) 0 0
          refine R_if ck_84_34 (fun _ => ?_) (fun c => absurd (show (0 : Int32) = 0 from by decide) c)
          refine R_seg sg_84_47 sk_84_47 (pc' := 48) (lv' := [(0, .ref 57), (1, .int (nI t)), (2, .int (nI f)), (3, .int (nI k)), (4, .int x4), (5, .int x5), (6, .int x6)]) (st' := [.int 0]) (S' := stt σ τ) (kc' := 0) (ks' := 0) rfl ⟨trivial, trivial⟩ ?_
          refine R_iret ck_84_48 rfl rfl ?_
          exact hf (fun q => by first | exact n_t q.1 | exact n_f q.2.1 | exact n_k q.2.2.1 | exact n_o q.2.2.2.1 | exact n_m q.2.2.2.2)
      · show RU_84 (d + 1) (0, 0) Post 24 ([(0, .ref 57), (1, .int (nI t)), (2, .int (nI f)), (3, .int x3), (4, .int x4), (5, .int x5), (6, .int x6)]) ([.int 0]) (stt σ τ) 0 0
        refine R_if ck_84_24 (fun _ => ?_) (fun c => absurd (show (0 : Int32) = 0 from by decide) c)
        refine R_seg sg_84_47 sk_84_47 (pc' := 48) (lv' := [(0, .ref 57), (1, .int (nI t)), (2, .int (nI f)), (3, .int x3), (4, .int x4), (5, .int x5), (6, .int x6)]) (st' := [.int 0]) (S' := stt σ τ) (kc' := 0) (ks' := 0) rfl ⟨trivial, trivial⟩ ?_
        refine R_iret ck_84_48 rfl rfl ?_
        exact hf (fun q => by first | exact n_t q.1 | exact n_f q.2.1 | exact n_k q.2.2.1 | exact n_o q.2.2.2.1 | exact n_m q.2.2.2.2)
    · show RU_84 (d + 1) (0, 0) Post 15 ([(0, .ref 57), (1, .int (nI t)), (2, .int x2), (3, .int x3), (4, .int x4), (5, .int x5), (6, .int x6)]) ([.int 0]) (stt σ τ) 0 0
      refine R_if ck_84_15 (fun _ => ?_) (fun c => absurd (show (0 : Int32) = 0 from by decide) c)
      refine R_seg sg_84_47 sk_84_47 (pc' := 48) (lv' := [(0, .ref 57), (1, .int (nI t)), (2, .int x2), (3, .int x3), (4, .int x4), (5, .int x5), (6, .int x6)]) (st' := [.int 0]) (S' := stt σ τ) (kc' := 0) (ks' := 0) rfl ⟨trivial, trivial⟩ ?_
      refine R_iret ck_84_48 rfl rfl ?_
      exact hf (fun q => by first | exact n_t q.1 | exact n_f q.2.1 | exact n_k q.2.2.1 | exact n_o q.2.2.2.1 | exact n_m q.2.2.2.2)
  · show RU_84 (d + 1) (0, 0) Post 6 ([(0, .ref 57), (1, .int x1), (2, .int x2), (3, .int x3), (4, .int x4), (5, .int x5), (6, .int x6)]) ([.int 0]) (stt σ τ) 0 0
    refine R_if ck_84_6 (fun _ => ?_) (fun c => absurd (show (0 : Int32) = 0 from by decide) c)
    refine R_seg sg_84_47 sk_84_47 (pc' := 48) (lv' := [(0, .ref 57), (1, .int x1), (2, .int x2), (3, .int x3), (4, .int x4), (5, .int x5), (6, .int x6)]) (st' := [.int 0]) (S' := stt σ τ) (kc' := 0) (ks' := 0) rfl ⟨trivial, trivial⟩ ?_
    refine R_iret ck_84_48 rfl rfl ?_
    exact hf (fun q => by first | exact n_t q.1 | exact n_f q.2.1 | exact n_k q.2.2.1 | exact n_o q.2.2.2.1 | exact n_m q.2.2.2.2)
def m_thing (σ : Nat → Nat → Int32) (i : Nat) (b : Int32) : Nat → Nat → Int32 := up2 (up2 σ 76 i b) 81 i (-1)
set_option maxRecDepth 20000 in
theorem x_85 {d : Nat} {σ : Nat → Nat → Int32} {τ : Nat → Nat → Int64} {x1 x2 x3 : Int32} (hb : x3 = 0 ∨ x3 = 1) {Post : Option Value → Sto → Prop} (hs : ∀ t k : Nat, t < 6 → k < 32 → x1 = nI t → x2 = nI k → ¬ σ 76 (t * 32 + k) = x3 → Post (some (.int 1)) (stt (m_thing σ (t * 32 + k) x3) τ)) (hf : ¬ (rg x1 0 5 ∧ rg x2 0 31 ∧ ∀ t k : Nat, x1 = nI t → x2 = nI k → ¬ σ 76 (t * 32 + k) = x3) → Post (some (.int 0)) (stt σ τ)) : Ex (d + 3) 85 [.ref 57, .int x1, .int x2, .int x3] (stt σ τ) 0 0 Post := by
  refine en_85 (Nat.le_of_ble_eq_true rfl) ?_
  show RU_85 (d + 2) (0, 0) Post 0 ([(0, .ref 57), (1, .int x1), (2, .int x2), (3, .int x3)]) ([]) (stt σ τ) 0 0
  refine R_seg sg_85_0 sk_85_0 (pc' := 2) (lv' := [(0, .ref 57), (1, .int x1), (2, .int x2), (3, .int x3)]) (st' := [.int x2, .int x1]) (S' := stt σ τ) (kc' := 0) (ks' := 0) rfl ⟨trivial, trivial, trivial⟩ ?_
  refine R_stat ck_85_2 (by decide) [.int x1, .int x2] 0 0 (r := []) rfl rfl (Nat.le_of_ble_eq_true rfl) (Nat.le_refl _) (Nat.le_refl _) ?_
  refine x_86 (d := d) (fun t k b_t b_k e_t e_k => ?_) (fun n_tk => ?_)
  · subst e_t; subst e_k
    show RU_85 (d + 2) (0, 0) Post 5 ([(0, .ref 57), (1, .int (nI t)), (2, .int (nI k)), (3, .int x3)]) ([.int 1]) (stt σ τ) 0 0
    refine R_if ck_85_5 (fun c => absurd c (show ¬ (1 : Int32) = 0 from by decide)) (fun _ => ?_)
    refine R_seg sg_85_8 sk_85_8 (pc' := 18) (lv' := [(0, .ref 57), (1, .int (nI t)), (2, .int (nI k)), (3, .int x3)]) (st' := [.int ((32 * (nI t)) + (nI k)), .ref 76]) (S' := stt σ τ) (kc' := 0) (ks' := 0) rfl ⟨trivial, rfl, trivial, trivial, trivial, trivial, trivial, trivial⟩ ?_
    refine R_bald ca_85_18 (j := t * 32 + k) rfl (by simp only [nl_0, nl_1, nl_2, nl_3, nl_4, nl_5, nl_6, nl_8, nl_20, nl_31, nl_32, pk_mul, nI_add]; congr 1; omega) (by omega) ?_
    refine R_seg sg_85_19 sk_85_19 (pc' := 20) (lv' := [(0, .ref 57), (1, .int (nI t)), (2, .int (nI k)), (3, .int x3)]) (st' := [.int x3, .int (σ 76 (t * 32 + k))]) (S' := stt σ τ) (kc' := 0) (ks' := 0) rfl ⟨trivial, trivial⟩ ?_
    refine R_icmp ck_85_20 (fun (c_20 : ¬ (σ 76 (t * 32 + k)) = x3) => ?_) (fun (c_20 : ¬ ¬ (σ 76 (t * 32 + k)) = x3) => ?_)
    · refine R_seg sg_85_25 sk_85_25 (pc' := 36) (lv' := [(0, .ref 57), (1, .int (nI t)), (2, .int (nI k)), (3, .int x3)]) (st' := [.int x3, .int ((32 * (nI t)) + (nI k)), .ref 76]) (S' := stt σ τ) (kc' := 0) (ks' := 0) rfl ⟨trivial, rfl, trivial, trivial, trivial, trivial, trivial, trivial, trivial⟩ ?_
      refine R_zast ca_85_36 (j := t * 32 + k) rfl (by simp only [nl_0, nl_1, nl_2, nl_3, nl_4, nl_5, nl_6, nl_8, nl_20, nl_31, nl_32, pk_mul, nI_add]; congr 1; omega) (by omega) (vz hb) ?_
      refine R_seg sg_85_37 sk_85_37 (pc' := 48) (lv' := [(0, .ref 57), (1, .int (nI t)), (2, .int (nI k)), (3, .int x3)]) (st' := [.int (-1), .int ((32 * (nI t)) + (nI k)), .ref 81]) (S' := stt (up2 σ 76 (t * 32 + k) x3) τ) (kc' := 0) (ks' := 0) rfl ⟨trivial, rfl, trivial, trivial, trivial, trivial, trivial, trivial, trivial⟩ ?_
      refine R_iast ca_85_48 (j := t * 32 + k) rfl (by simp only [nl_0, nl_1, nl_2, nl_3, nl_4, nl_5, nl_6, nl_8, nl_20, nl_31, nl_32, pk_mul, nI_add]; congr 1; omega) (by omega) ?_
      refine R_seg sg_85_49 sk_85_49 (pc' := 50) (lv' := [(0, .ref 57), (1, .int (nI t)), (2, .int (nI k)), (3, .int x3)]) (st' := [.int 1]) (S' := stt (up2 (up2 σ 76 (t * 32 + k) x3) 81 (t * 32 + k) (-1)) τ) (kc' := 0) (ks' := 0) rfl ⟨trivial, trivial⟩ ?_
      refine R_iret ck_85_50 rfl rfl ?_
      exact hs t k (by omega) (by omega) rfl rfl (by assumption)
    · refine R_seg sg_85_23 sk_85_23 (pc' := 24) (lv' := [(0, .ref 57), (1, .int (nI t)), (2, .int (nI k)), (3, .int x3)]) (st' := [.int 0]) (S' := stt σ τ) (kc' := 0) (ks' := 0) rfl ⟨trivial, trivial⟩ ?_
      refine R_iret ck_85_24 rfl rfl ?_
      first | exact hf (fun q => n_tk ⟨q.1, q.2.1⟩) | exact hf (fun q => by obtain ⟨-, -, h⟩ := q; exact h t k rfl rfl (Classical.not_not.mp (by assumption)))
  · show RU_85 (d + 2) (0, 0) Post 5 ([(0, .ref 57), (1, .int x1), (2, .int x2), (3, .int x3)]) ([.int 0]) (stt σ τ) 0 0
    refine R_if ck_85_5 (fun _ => ?_) (fun c => absurd (show (0 : Int32) = 0 from by decide) c)
    refine R_seg sg_85_23 sk_85_23 (pc' := 24) (lv' := [(0, .ref 57), (1, .int x1), (2, .int x2), (3, .int x3)]) (st' := [.int 0]) (S' := stt σ τ) (kc' := 0) (ks' := 0) rfl ⟨trivial, trivial⟩ ?_
    refine R_iret ck_85_24 rfl rfl ?_
    first | exact hf (fun q => n_tk ⟨q.1, q.2.1⟩) | exact hf (fun q => by obtain ⟨-, -, h⟩ := q; exact h t k rfl rfl (Classical.not_not.mp (by assumption)))
def m_number (σ : Nat → Nat → Int32) (i f : Nat) (v : Int32) : Nat → Nat → Int32 := up2 (up2 σ 77 (i * 4 + f) v) 81 i (-1)
set_option maxRecDepth 20000 in
theorem x_87 {d : Nat} {σ : Nat → Nat → Int32} {τ : Nat → Nat → Int64} {x1 x2 x3 x4 : Int32} {Post : Option Value → Sto → Prop} (hs : ∀ t k f : Nat, t < 6 → k < 32 → f < 4 → x1 = nI t → x2 = nI k → x3 = nI f → ¬ x4 < (-99999) → ¬ 99999 < x4 → Post (some (.int 1)) (stt (m_number σ (t * 32 + k) f x4) τ)) (hf : ¬ (rg x1 0 5 ∧ rg x2 0 31 ∧ rg x3 0 3 ∧ ¬ x4 < (-99999) ∧ ¬ 99999 < x4) → Post (some (.int 0)) (stt σ τ)) : Ex (d + 3) 87 [.ref 57, .int x1, .int x2, .int x3, .int x4] (stt σ τ) 0 0 Post := by
  refine en_87 (Nat.le_of_ble_eq_true rfl) ?_
  show RU_87 (d + 2) (0, 0) Post 0 ([(0, .ref 57), (1, .int x1), (2, .int x2), (3, .int x3), (4, .int x4)]) ([]) (stt σ τ) 0 0
  refine R_seg sg_87_0 sk_87_0 (pc' := 2) (lv' := [(0, .ref 57), (1, .int x1), (2, .int x2), (3, .int x3), (4, .int x4)]) (st' := [.int x2, .int x1]) (S' := stt σ τ) (kc' := 0) (ks' := 0) rfl ⟨trivial, trivial, trivial⟩ ?_
  refine R_stat ck_87_2 (by decide) [.int x1, .int x2] 0 0 (r := []) rfl rfl (Nat.le_of_ble_eq_true rfl) (Nat.le_refl _) (Nat.le_refl _) ?_
  refine x_86 (d := d) (fun t k b_t b_k e_t e_k => ?_) (fun n_tk => ?_)
  · subst e_t; subst e_k
    show RU_87 (d + 2) (0, 0) Post 5 ([(0, .ref 57), (1, .int (nI t)), (2, .int (nI k)), (3, .int x3), (4, .int x4)]) ([.int 1]) (stt σ τ) 0 0
    refine R_if ck_87_5 (fun c => absurd c (show ¬ (1 : Int32) = 0 from by decide)) (fun _ => ?_)
    refine R_seg sg_87_8 sk_87_8 (pc' := 11) (lv' := [(0, .ref 57), (1, .int (nI t)), (2, .int (nI k)), (3, .int x3), (4, .int x4)]) (st' := [.int 3, .int 0, .int x3]) (S' := stt σ τ) (kc' := 0) (ks' := 0) rfl ⟨trivial, trivial, trivial, trivial⟩ ?_
    refine R_stat ck_87_11 (by decide) [.int x3, .int 0, .int 3] 0 0 (r := []) rfl rfl (Nat.le_of_ble_eq_true rfl) (Nat.le_refl _) (Nat.le_refl _) ?_
    refine xn_81 (d := d + 1) 0 3 (by omega) (by omega) (fun f l_f u_f e_f => ?_) (fun n_f => ?_)
    · subst e_f
      show RU_87 (d + 2) (0, 0) Post 14 ([(0, .ref 57), (1, .int (nI t)), (2, .int (nI k)), (3, .int (nI f)), (4, .int x4)]) ([.int 1]) (stt σ τ) 0 0
      refine R_if ck_87_14 (fun c => absurd c (show ¬ (1 : Int32) = 0 from by decide)) (fun _ => ?_)
      refine R_seg sg_87_17 sk_87_17 (pc' := 23) (lv' := [(0, .ref 57), (1, .int (nI t)), (2, .int (nI k)), (3, .int (nI f)), (4, .int x4)]) (st' := [.int 99999, .int (-99999), .int x4]) (S' := stt σ τ) (kc' := 0) (ks' := 0) rfl ⟨trivial, trivial, trivial, trivial⟩ ?_
      refine R_stat ck_87_23 (by decide) [.int x4, .int (-99999), .int 99999] 0 0 (r := []) rfl rfl (Nat.le_of_ble_eq_true rfl) (Nat.le_refl _) (Nat.le_refl _) ?_
      refine x_81 (d := d + 1) (fun c_23a c_23b => ?_) (fun c_23n => ?_)
      · show RU_87 (d + 2) (0, 0) Post 26 ([(0, .ref 57), (1, .int (nI t)), (2, .int (nI k)), (3, .int (nI f)), (4, .int x4)]) ([.int 1]) (stt σ τ) 0 0
        refine R_if ck_87_26 (fun _ => ?_) (fun c => absurd (show ¬ (1 : Int32) = 0 from by decide) c)
        refine R_seg sg_87_31 sk_87_31 (pc' := 47) (lv' := [(0, .ref 57), (1, .int (nI t)), (2, .int (nI k)), (3, .int (nI f)), (4, .int x4)]) (st' := [.int x4, .int ((4 * ((32 * (nI t)) + (nI k))) + (nI f)), .ref 77]) (S' := stt σ τ) (kc' := 0) (ks' := 0) rfl ⟨trivial, rfl, trivial, trivial, trivial, trivial, trivial, trivial, trivial, trivial, trivial, trivial, trivial⟩ ?_
        refine R_iast ca_87_47 (j := (t * 32 + k) * 4 + f) rfl (by simp only [nl_0, nl_1, nl_2, nl_3, nl_4, nl_5, nl_6, nl_8, nl_20, nl_31, nl_32, pk_mul, nI_add]; congr 1; omega) (by omega) ?_
        refine R_seg sg_87_48 sk_87_48 (pc' := 59) (lv' := [(0, .ref 57), (1, .int (nI t)), (2, .int (nI k)), (3, .int (nI f)), (4, .int x4)]) (st' := [.int (-1), .int ((32 * (nI t)) + (nI k)), .ref 81]) (S' := stt (up2 σ 77 ((t * 32 + k) * 4 + f) x4) τ) (kc' := 0) (ks' := 0) rfl ⟨trivial, rfl, trivial, trivial, trivial, trivial, trivial, trivial, trivial⟩ ?_
        refine R_iast ca_87_59 (j := t * 32 + k) rfl (by simp only [nl_0, nl_1, nl_2, nl_3, nl_4, nl_5, nl_6, nl_8, nl_20, nl_31, nl_32, pk_mul, nI_add]; congr 1; omega) (by omega) ?_
        refine R_seg sg_87_60 sk_87_60 (pc' := 61) (lv' := [(0, .ref 57), (1, .int (nI t)), (2, .int (nI k)), (3, .int (nI f)), (4, .int x4)]) (st' := [.int 1]) (S' := stt (up2 (up2 σ 77 ((t * 32 + k) * 4 + f) x4) 81 (t * 32 + k) (-1)) τ) (kc' := 0) (ks' := 0) rfl ⟨trivial, trivial⟩ ?_
        refine R_iret ck_87_61 rfl rfl ?_
        exact hs t k f (by omega) (by omega) (by omega) rfl rfl rfl c_23a c_23b
      · show RU_87 (d + 2) (0, 0) Post 26 ([(0, .ref 57), (1, .int (nI t)), (2, .int (nI k)), (3, .int (nI f)), (4, .int x4)]) ([.int 0]) (stt σ τ) 0 0
        refine R_if ck_87_26 (fun c => absurd c (show ¬ ¬ (0 : Int32) = 0 from by decide)) (fun _ => ?_)
        refine R_seg sg_87_29 sk_87_29 (pc' := 30) (lv' := [(0, .ref 57), (1, .int (nI t)), (2, .int (nI k)), (3, .int (nI f)), (4, .int x4)]) (st' := [.int 0]) (S' := stt σ τ) (kc' := 0) (ks' := 0) rfl ⟨trivial, trivial⟩ ?_
        refine R_iret ck_87_30 rfl rfl ?_
        first | exact hf (fun q => n_tk ⟨q.1, q.2.1⟩) | exact hf (fun q => n_f q.2.2.1) | (refine hf (fun q => ?_); rcases c_23n with c | c; exact q.2.2.2.1 c; exact q.2.2.2.2 c)
    · show RU_87 (d + 2) (0, 0) Post 14 ([(0, .ref 57), (1, .int (nI t)), (2, .int (nI k)), (3, .int x3), (4, .int x4)]) ([.int 0]) (stt σ τ) 0 0
      refine R_if ck_87_14 (fun _ => ?_) (fun c => absurd (show (0 : Int32) = 0 from by decide) c)
      refine R_seg sg_87_29 sk_87_29 (pc' := 30) (lv' := [(0, .ref 57), (1, .int (nI t)), (2, .int (nI k)), (3, .int x3), (4, .int x4)]) (st' := [.int 0]) (S' := stt σ τ) (kc' := 0) (ks' := 0) rfl ⟨trivial, trivial⟩ ?_
      refine R_iret ck_87_30 rfl rfl ?_
      first | exact hf (fun q => n_tk ⟨q.1, q.2.1⟩) | exact hf (fun q => n_f q.2.2.1) | (refine hf (fun q => ?_); rcases c_23n with c | c; exact q.2.2.2.1 c; exact q.2.2.2.2 c)
  · show RU_87 (d + 2) (0, 0) Post 5 ([(0, .ref 57), (1, .int x1), (2, .int x2), (3, .int x3), (4, .int x4)]) ([.int 0]) (stt σ τ) 0 0
    refine R_if ck_87_5 (fun _ => ?_) (fun c => absurd (show (0 : Int32) = 0 from by decide) c)
    refine R_seg sg_87_29 sk_87_29 (pc' := 30) (lv' := [(0, .ref 57), (1, .int x1), (2, .int x2), (3, .int x3), (4, .int x4)]) (st' := [.int 0]) (S' := stt σ τ) (kc' := 0) (ks' := 0) rfl ⟨trivial, trivial⟩ ?_
    refine R_iret ck_87_30 rfl rfl ?_
    first | exact hf (fun q => n_tk ⟨q.1, q.2.1⟩) | exact hf (fun q => n_f q.2.2.1) | (refine hf (fun q => ?_); rcases c_23n with c | c; exact q.2.2.2.1 c; exact q.2.2.2.2 c)
def m_key (σ : Nat → Nat → Int32) (i f : Nat) (v : Int32) : Nat → Nat → Int32 := up2 (up2 σ 78 (i * 4 + f) v) 81 i (-1)
set_option maxRecDepth 20000 in
theorem x_88 {d : Nat} {σ : Nat → Nat → Int32} {τ : Nat → Nat → Int64} {x1 x2 x3 x4 : Int32} {Post : Option Value → Sto → Prop} (hs : ∀ t k f : Nat, t < 6 → k < 32 → f < 4 → x1 = nI t → x2 = nI k → x3 = nI f → ¬ x4 < (-1) → ¬ 31 < x4 → Post (some (.int 1)) (stt (m_key σ (t * 32 + k) f x4) τ)) (hf : ¬ (rg x1 0 5 ∧ rg x2 0 31 ∧ rg x3 0 3 ∧ ¬ x4 < (-1) ∧ ¬ 31 < x4) → Post (some (.int 0)) (stt σ τ)) : Ex (d + 3) 88 [.ref 57, .int x1, .int x2, .int x3, .int x4] (stt σ τ) 0 0 Post := by
  refine en_88 (Nat.le_of_ble_eq_true rfl) ?_
  show RU_88 (d + 2) (0, 0) Post 0 ([(0, .ref 57), (1, .int x1), (2, .int x2), (3, .int x3), (4, .int x4)]) ([]) (stt σ τ) 0 0
  refine R_seg sg_88_0 sk_88_0 (pc' := 2) (lv' := [(0, .ref 57), (1, .int x1), (2, .int x2), (3, .int x3), (4, .int x4)]) (st' := [.int x2, .int x1]) (S' := stt σ τ) (kc' := 0) (ks' := 0) rfl ⟨trivial, trivial, trivial⟩ ?_
  refine R_stat ck_88_2 (by decide) [.int x1, .int x2] 0 0 (r := []) rfl rfl (Nat.le_of_ble_eq_true rfl) (Nat.le_refl _) (Nat.le_refl _) ?_
  refine x_86 (d := d) (fun t k b_t b_k e_t e_k => ?_) (fun n_tk => ?_)
  · subst e_t; subst e_k
    show RU_88 (d + 2) (0, 0) Post 5 ([(0, .ref 57), (1, .int (nI t)), (2, .int (nI k)), (3, .int x3), (4, .int x4)]) ([.int 1]) (stt σ τ) 0 0
    refine R_if ck_88_5 (fun c => absurd c (show ¬ (1 : Int32) = 0 from by decide)) (fun _ => ?_)
    refine R_seg sg_88_8 sk_88_8 (pc' := 11) (lv' := [(0, .ref 57), (1, .int (nI t)), (2, .int (nI k)), (3, .int x3), (4, .int x4)]) (st' := [.int 3, .int 0, .int x3]) (S' := stt σ τ) (kc' := 0) (ks' := 0) rfl ⟨trivial, trivial, trivial, trivial⟩ ?_
    refine R_stat ck_88_11 (by decide) [.int x3, .int 0, .int 3] 0 0 (r := []) rfl rfl (Nat.le_of_ble_eq_true rfl) (Nat.le_refl _) (Nat.le_refl _) ?_
    refine xn_81 (d := d + 1) 0 3 (by omega) (by omega) (fun f l_f u_f e_f => ?_) (fun n_f => ?_)
    · subst e_f
      show RU_88 (d + 2) (0, 0) Post 14 ([(0, .ref 57), (1, .int (nI t)), (2, .int (nI k)), (3, .int (nI f)), (4, .int x4)]) ([.int 1]) (stt σ τ) 0 0
      refine R_if ck_88_14 (fun c => absurd c (show ¬ (1 : Int32) = 0 from by decide)) (fun _ => ?_)
      refine R_seg sg_88_17 sk_88_17 (pc' := 22) (lv' := [(0, .ref 57), (1, .int (nI t)), (2, .int (nI k)), (3, .int (nI f)), (4, .int x4)]) (st' := [.int 31, .int (-1), .int x4]) (S' := stt σ τ) (kc' := 0) (ks' := 0) rfl ⟨trivial, trivial, trivial, trivial⟩ ?_
      refine R_stat ck_88_22 (by decide) [.int x4, .int (-1), .int 31] 0 0 (r := []) rfl rfl (Nat.le_of_ble_eq_true rfl) (Nat.le_refl _) (Nat.le_refl _) ?_
      refine x_81 (d := d + 1) (fun c_22a c_22b => ?_) (fun c_22n => ?_)
      · show RU_88 (d + 2) (0, 0) Post 25 ([(0, .ref 57), (1, .int (nI t)), (2, .int (nI k)), (3, .int (nI f)), (4, .int x4)]) ([.int 1]) (stt σ τ) 0 0
        refine R_if ck_88_25 (fun _ => ?_) (fun c => absurd (show ¬ (1 : Int32) = 0 from by decide) c)
        refine R_seg sg_88_30 sk_88_30 (pc' := 46) (lv' := [(0, .ref 57), (1, .int (nI t)), (2, .int (nI k)), (3, .int (nI f)), (4, .int x4)]) (st' := [.int x4, .int ((4 * ((32 * (nI t)) + (nI k))) + (nI f)), .ref 78]) (S' := stt σ τ) (kc' := 0) (ks' := 0) rfl ⟨trivial, rfl, trivial, trivial, trivial, trivial, trivial, trivial, trivial, trivial, trivial, trivial, trivial⟩ ?_
        refine R_iast ca_88_46 (j := (t * 32 + k) * 4 + f) rfl (by simp only [nl_0, nl_1, nl_2, nl_3, nl_4, nl_5, nl_6, nl_8, nl_20, nl_31, nl_32, pk_mul, nI_add]; congr 1; omega) (by omega) ?_
        refine R_seg sg_88_47 sk_88_47 (pc' := 58) (lv' := [(0, .ref 57), (1, .int (nI t)), (2, .int (nI k)), (3, .int (nI f)), (4, .int x4)]) (st' := [.int (-1), .int ((32 * (nI t)) + (nI k)), .ref 81]) (S' := stt (up2 σ 78 ((t * 32 + k) * 4 + f) x4) τ) (kc' := 0) (ks' := 0) rfl ⟨trivial, rfl, trivial, trivial, trivial, trivial, trivial, trivial, trivial⟩ ?_
        refine R_iast ca_88_58 (j := t * 32 + k) rfl (by simp only [nl_0, nl_1, nl_2, nl_3, nl_4, nl_5, nl_6, nl_8, nl_20, nl_31, nl_32, pk_mul, nI_add]; congr 1; omega) (by omega) ?_
        refine R_seg sg_88_59 sk_88_59 (pc' := 60) (lv' := [(0, .ref 57), (1, .int (nI t)), (2, .int (nI k)), (3, .int (nI f)), (4, .int x4)]) (st' := [.int 1]) (S' := stt (up2 (up2 σ 78 ((t * 32 + k) * 4 + f) x4) 81 (t * 32 + k) (-1)) τ) (kc' := 0) (ks' := 0) rfl ⟨trivial, trivial⟩ ?_
        refine R_iret ck_88_60 rfl rfl ?_
        exact hs t k f (by omega) (by omega) (by omega) rfl rfl rfl c_22a c_22b
      · show RU_88 (d + 2) (0, 0) Post 25 ([(0, .ref 57), (1, .int (nI t)), (2, .int (nI k)), (3, .int (nI f)), (4, .int x4)]) ([.int 0]) (stt σ τ) 0 0
        refine R_if ck_88_25 (fun c => absurd c (show ¬ ¬ (0 : Int32) = 0 from by decide)) (fun _ => ?_)
        refine R_seg sg_88_28 sk_88_28 (pc' := 29) (lv' := [(0, .ref 57), (1, .int (nI t)), (2, .int (nI k)), (3, .int (nI f)), (4, .int x4)]) (st' := [.int 0]) (S' := stt σ τ) (kc' := 0) (ks' := 0) rfl ⟨trivial, trivial⟩ ?_
        refine R_iret ck_88_29 rfl rfl ?_
        first | exact hf (fun q => n_tk ⟨q.1, q.2.1⟩) | exact hf (fun q => n_f q.2.2.1) | (refine hf (fun q => ?_); rcases c_22n with c | c; exact q.2.2.2.1 c; exact q.2.2.2.2 c)
    · show RU_88 (d + 2) (0, 0) Post 14 ([(0, .ref 57), (1, .int (nI t)), (2, .int (nI k)), (3, .int x3), (4, .int x4)]) ([.int 0]) (stt σ τ) 0 0
      refine R_if ck_88_14 (fun _ => ?_) (fun c => absurd (show (0 : Int32) = 0 from by decide) c)
      refine R_seg sg_88_28 sk_88_28 (pc' := 29) (lv' := [(0, .ref 57), (1, .int (nI t)), (2, .int (nI k)), (3, .int x3), (4, .int x4)]) (st' := [.int 0]) (S' := stt σ τ) (kc' := 0) (ks' := 0) rfl ⟨trivial, trivial⟩ ?_
      refine R_iret ck_88_29 rfl rfl ?_
      first | exact hf (fun q => n_tk ⟨q.1, q.2.1⟩) | exact hf (fun q => n_f q.2.2.1) | (refine hf (fun q => ?_); rcases c_22n with c | c; exact q.2.2.2.1 c; exact q.2.2.2.2 c)
  · show RU_88 (d + 2) (0, 0) Post 5 ([(0, .ref 57), (1, .int x1), (2, .int x2), (3, .int x3), (4, .int x4)]) ([.int 0]) (stt σ τ) 0 0
    refine R_if ck_88_5 (fun _ => ?_) (fun c => absurd (show (0 : Int32) = 0 from by decide) c)
    refine R_seg sg_88_28 sk_88_28 (pc' := 29) (lv' := [(0, .ref 57), (1, .int x1), (2, .int x2), (3, .int x3), (4, .int x4)]) (st' := [.int 0]) (S' := stt σ τ) (kc' := 0) (ks' := 0) rfl ⟨trivial, trivial⟩ ?_
    refine R_iret ck_88_29 rfl rfl ?_
    first | exact hf (fun q => n_tk ⟨q.1, q.2.1⟩) | exact hf (fun q => n_f q.2.2.1) | (refine hf (fun q => ?_); rcases c_22n with c | c; exact q.2.2.2.1 c; exact q.2.2.2.2 c)
def m_row (σ : Nat → Nat → Int32) (i f n : Nat) (v : Int32) : Nat → Nat → Int32 := up2 (up2 (up2 σ 79 (i * 4 + f) (nI n)) 80 (i * 4 + f) v) 81 i (-1)
set_option maxRecDepth 20000 in
theorem x_89 {d : Nat} {σ : Nat → Nat → Int32} {τ : Nat → Nat → Int64} {x1 x2 x3 x4 x5 : Int32} {Post : Option Value → Sto → Prop} (hs : ∀ t k f n : Nat, t < 6 → k < 32 → f < 4 → n ≤ 5 → x1 = nI t → x2 = nI k → x3 = nI f → x4 = nI n → Post (some (.int 1)) (stt (m_row σ (t * 32 + k) f n x5) τ)) (hf : ¬ (rg x1 0 5 ∧ rg x2 0 31 ∧ rg x3 0 3 ∧ rg x4 0 5) → Post (some (.int 0)) (stt σ τ)) : Ex (d + 3) 89 [.ref 57, .int x1, .int x2, .int x3, .int x4, .int x5] (stt σ τ) 0 0 Post := by
  refine en_89 (Nat.le_of_ble_eq_true rfl) ?_
  show RU_89 (d + 2) (0, 0) Post 0 ([(0, .ref 57), (1, .int x1), (2, .int x2), (3, .int x3), (4, .int x4), (5, .int x5)]) ([]) (stt σ τ) 0 0
  refine R_seg sg_89_0 sk_89_0 (pc' := 2) (lv' := [(0, .ref 57), (1, .int x1), (2, .int x2), (3, .int x3), (4, .int x4), (5, .int x5)]) (st' := [.int x2, .int x1]) (S' := stt σ τ) (kc' := 0) (ks' := 0) rfl ⟨trivial, trivial, trivial⟩ ?_
  refine R_stat ck_89_2 (by decide) [.int x1, .int x2] 0 0 (r := []) rfl rfl (Nat.le_of_ble_eq_true rfl) (Nat.le_refl _) (Nat.le_refl _) ?_
  refine x_86 (d := d) (fun t k b_t b_k e_t e_k => ?_) (fun n_tk => ?_)
  · subst e_t; subst e_k
    show RU_89 (d + 2) (0, 0) Post 5 ([(0, .ref 57), (1, .int (nI t)), (2, .int (nI k)), (3, .int x3), (4, .int x4), (5, .int x5)]) ([.int 1]) (stt σ τ) 0 0
    refine R_if ck_89_5 (fun c => absurd c (show ¬ (1 : Int32) = 0 from by decide)) (fun _ => ?_)
    refine R_seg sg_89_8 sk_89_8 (pc' := 11) (lv' := [(0, .ref 57), (1, .int (nI t)), (2, .int (nI k)), (3, .int x3), (4, .int x4), (5, .int x5)]) (st' := [.int 3, .int 0, .int x3]) (S' := stt σ τ) (kc' := 0) (ks' := 0) rfl ⟨trivial, trivial, trivial, trivial⟩ ?_
    refine R_stat ck_89_11 (by decide) [.int x3, .int 0, .int 3] 0 0 (r := []) rfl rfl (Nat.le_of_ble_eq_true rfl) (Nat.le_refl _) (Nat.le_refl _) ?_
    refine xn_81 (d := d + 1) 0 3 (by omega) (by omega) (fun f l_f u_f e_f => ?_) (fun n_f => ?_)
    · subst e_f
      show RU_89 (d + 2) (0, 0) Post 14 ([(0, .ref 57), (1, .int (nI t)), (2, .int (nI k)), (3, .int (nI f)), (4, .int x4), (5, .int x5)]) ([.int 1]) (stt σ τ) 0 0
      refine R_if ck_89_14 (fun c => absurd c (show ¬ (1 : Int32) = 0 from by decide)) (fun _ => ?_)
      refine R_seg sg_89_17 sk_89_17 (pc' := 21) (lv' := [(0, .ref 57), (1, .int (nI t)), (2, .int (nI k)), (3, .int (nI f)), (4, .int x4), (5, .int x5)]) (st' := [.int 5, .int 0, .int x4]) (S' := stt σ τ) (kc' := 0) (ks' := 0) rfl ⟨trivial, trivial, trivial, trivial⟩ ?_
      refine R_stat ck_89_21 (by decide) [.int x4, .int 0, .int 5] 0 0 (r := []) rfl rfl (Nat.le_of_ble_eq_true rfl) (Nat.le_refl _) (Nat.le_refl _) ?_
      refine xn_81 (d := d + 1) 0 5 (by omega) (by omega) (fun n l_n u_n e_n => ?_) (fun n_n => ?_)
      · subst e_n
        show RU_89 (d + 2) (0, 0) Post 24 ([(0, .ref 57), (1, .int (nI t)), (2, .int (nI k)), (3, .int (nI f)), (4, .int (nI n)), (5, .int x5)]) ([.int 1]) (stt σ τ) 0 0
        refine R_if ck_89_24 (fun _ => ?_) (fun c => absurd (show ¬ (1 : Int32) = 0 from by decide) c)
        refine R_seg sg_89_29 sk_89_29 (pc' := 45) (lv' := [(0, .ref 57), (1, .int (nI t)), (2, .int (nI k)), (3, .int (nI f)), (4, .int (nI n)), (5, .int x5)]) (st' := [.int (nI n), .int ((4 * ((32 * (nI t)) + (nI k))) + (nI f)), .ref 79]) (S' := stt σ τ) (kc' := 0) (ks' := 0) rfl ⟨trivial, rfl, trivial, trivial, trivial, trivial, trivial, trivial, trivial, trivial, trivial, trivial, trivial⟩ ?_
        refine R_iast ca_89_45 (j := (t * 32 + k) * 4 + f) rfl (by simp only [nl_0, nl_1, nl_2, nl_3, nl_4, nl_5, nl_6, nl_8, nl_20, nl_31, nl_32, pk_mul, nI_add]; congr 1; omega) (by omega) ?_
        refine R_seg sg_89_46 sk_89_46 (pc' := 62) (lv' := [(0, .ref 57), (1, .int (nI t)), (2, .int (nI k)), (3, .int (nI f)), (4, .int (nI n)), (5, .int x5)]) (st' := [.int x5, .int ((4 * ((32 * (nI t)) + (nI k))) + (nI f)), .ref 80]) (S' := stt (up2 σ 79 ((t * 32 + k) * 4 + f) (nI n)) τ) (kc' := 0) (ks' := 0) rfl ⟨trivial, rfl, trivial, trivial, trivial, trivial, trivial, trivial, trivial, trivial, trivial, trivial, trivial⟩ ?_
        refine R_iast ca_89_62 (j := (t * 32 + k) * 4 + f) rfl (by simp only [nl_0, nl_1, nl_2, nl_3, nl_4, nl_5, nl_6, nl_8, nl_20, nl_31, nl_32, pk_mul, nI_add]; congr 1; omega) (by omega) ?_
        refine R_seg sg_89_63 sk_89_63 (pc' := 74) (lv' := [(0, .ref 57), (1, .int (nI t)), (2, .int (nI k)), (3, .int (nI f)), (4, .int (nI n)), (5, .int x5)]) (st' := [.int (-1), .int ((32 * (nI t)) + (nI k)), .ref 81]) (S' := stt (up2 (up2 σ 79 ((t * 32 + k) * 4 + f) (nI n)) 80 ((t * 32 + k) * 4 + f) x5) τ) (kc' := 0) (ks' := 0) rfl ⟨trivial, rfl, trivial, trivial, trivial, trivial, trivial, trivial, trivial⟩ ?_
        refine R_iast ca_89_74 (j := t * 32 + k) rfl (by simp only [nl_0, nl_1, nl_2, nl_3, nl_4, nl_5, nl_6, nl_8, nl_20, nl_31, nl_32, pk_mul, nI_add]; congr 1; omega) (by omega) ?_
        refine R_seg sg_89_75 sk_89_75 (pc' := 76) (lv' := [(0, .ref 57), (1, .int (nI t)), (2, .int (nI k)), (3, .int (nI f)), (4, .int (nI n)), (5, .int x5)]) (st' := [.int 1]) (S' := stt (up2 (up2 (up2 σ 79 ((t * 32 + k) * 4 + f) (nI n)) 80 ((t * 32 + k) * 4 + f) x5) 81 (t * 32 + k) (-1)) τ) (kc' := 0) (ks' := 0) rfl ⟨trivial, trivial⟩ ?_
        refine R_iret ck_89_76 rfl rfl ?_
        exact hs t k f n (by omega) (by omega) (by omega) (by omega) rfl rfl rfl rfl
      · show RU_89 (d + 2) (0, 0) Post 24 ([(0, .ref 57), (1, .int (nI t)), (2, .int (nI k)), (3, .int (nI f)), (4, .int x4), (5, .int x5)]) ([.int 0]) (stt σ τ) 0 0
        refine R_if ck_89_24 (fun c => absurd c (show ¬ ¬ (0 : Int32) = 0 from by decide)) (fun _ => ?_)
        refine R_seg sg_89_27 sk_89_27 (pc' := 28) (lv' := [(0, .ref 57), (1, .int (nI t)), (2, .int (nI k)), (3, .int (nI f)), (4, .int x4), (5, .int x5)]) (st' := [.int 0]) (S' := stt σ τ) (kc' := 0) (ks' := 0) rfl ⟨trivial, trivial⟩ ?_
        refine R_iret ck_89_28 rfl rfl ?_
        first | exact hf (fun q => n_tk ⟨q.1, q.2.1⟩) | exact hf (fun q => n_f q.2.2.1) | exact hf (fun q => n_n q.2.2.2)
    · show RU_89 (d + 2) (0, 0) Post 14 ([(0, .ref 57), (1, .int (nI t)), (2, .int (nI k)), (3, .int x3), (4, .int x4), (5, .int x5)]) ([.int 0]) (stt σ τ) 0 0
      refine R_if ck_89_14 (fun _ => ?_) (fun c => absurd (show (0 : Int32) = 0 from by decide) c)
      refine R_seg sg_89_27 sk_89_27 (pc' := 28) (lv' := [(0, .ref 57), (1, .int (nI t)), (2, .int (nI k)), (3, .int x3), (4, .int x4), (5, .int x5)]) (st' := [.int 0]) (S' := stt σ τ) (kc' := 0) (ks' := 0) rfl ⟨trivial, trivial⟩ ?_
      refine R_iret ck_89_28 rfl rfl ?_
      first | exact hf (fun q => n_tk ⟨q.1, q.2.1⟩) | exact hf (fun q => n_f q.2.2.1) | exact hf (fun q => n_n q.2.2.2)
  · show RU_89 (d + 2) (0, 0) Post 5 ([(0, .ref 57), (1, .int x1), (2, .int x2), (3, .int x3), (4, .int x4), (5, .int x5)]) ([.int 0]) (stt σ τ) 0 0
    refine R_if ck_89_5 (fun _ => ?_) (fun c => absurd (show (0 : Int32) = 0 from by decide) c)
    refine R_seg sg_89_27 sk_89_27 (pc' := 28) (lv' := [(0, .ref 57), (1, .int x1), (2, .int x2), (3, .int x3), (4, .int x4), (5, .int x5)]) (st' := [.int 0]) (S' := stt σ τ) (kc' := 0) (ks' := 0) rfl ⟨trivial, trivial⟩ ?_
    refine R_iret ck_89_28 rfl rfl ?_
    first | exact hf (fun q => n_tk ⟨q.1, q.2.1⟩) | exact hf (fun q => n_f q.2.2.1) | exact hf (fun q => n_n q.2.2.2)
def m_asker (σ : Nat → Nat → Int32) (a r u f : Nat) : Nat → Nat → Int32 := up2 (up2 (up2 (up2 σ 82 a (nI r)) 83 a (nI u)) 84 a (nI f)) 85 a (if σ 85 a ≤ nI u then σ 85 a else nI u)
set_option maxRecDepth 20000 in
theorem x_90 {d : Nat} {σ : Nat → Nat → Int32} {τ : Nat → Nat → Int64} {x1 x2 x3 x4 : Int32} {Post : Option Value → Sto → Prop} (hs : ∀ a r u f : Nat, a < 4 → r ≤ 63 → 1 ≤ u → u ≤ 500 → f ≤ 50 → x1 = nI a → x2 = nI r → x3 = nI u → x4 = nI f → Post (some (.int 1)) (stt (m_asker σ a r u f) τ)) (hf : ¬ (rg x1 0 3 ∧ rg x2 0 63 ∧ rg x3 1 500 ∧ rg x4 0 50) → Post (some (.int 0)) (stt σ τ)) : Ex (d + 2) 90 [.ref 57, .int x1, .int x2, .int x3, .int x4] (stt σ τ) 0 0 Post := by
  refine en_90 (Nat.le_of_ble_eq_true rfl) ?_
  show RU_90 (d + 1) (0, 0) Post 0 ([(0, .ref 57), (1, .int x1), (2, .int x2), (3, .int x3), (4, .int x4)]) ([]) (stt σ τ) 0 0
  refine R_seg sg_90_0 sk_90_0 (pc' := 3) (lv' := [(0, .ref 57), (1, .int x1), (2, .int x2), (3, .int x3), (4, .int x4)]) (st' := [.int 3, .int 0, .int x1]) (S' := stt σ τ) (kc' := 0) (ks' := 0) rfl ⟨trivial, trivial, trivial, trivial⟩ ?_
  refine R_stat ck_90_3 (by decide) [.int x1, .int 0, .int 3] 0 0 (r := []) rfl rfl (Nat.le_of_ble_eq_true rfl) (Nat.le_refl _) (Nat.le_refl _) ?_
  refine xn_81 (d := d) 0 3 (by omega) (by omega) (fun a l_a u_a e_a => ?_) (fun n_a => ?_)
  · subst e_a
    show RU_90 (d + 1) (0, 0) Post 6 ([(0, .ref 57), (1, .int (nI a)), (2, .int x2), (3, .int x3), (4, .int x4)]) ([.int 1]) (stt σ τ) 0 0
    refine R_if ck_90_6 (fun c => absurd c (show ¬ (1 : Int32) = 0 from by decide)) (fun _ => ?_)
    refine R_seg sg_90_9 sk_90_9 (pc' := 13) (lv' := [(0, .ref 57), (1, .int (nI a)), (2, .int x2), (3, .int x3), (4, .int x4)]) (st' := [.int 63, .int 0, .int x2]) (S' := stt σ τ) (kc' := 0) (ks' := 0) rfl ⟨trivial, trivial, trivial, trivial⟩ ?_
    refine R_stat ck_90_13 (by decide) [.int x2, .int 0, .int 63] 0 0 (r := []) rfl rfl (Nat.le_of_ble_eq_true rfl) (Nat.le_refl _) (Nat.le_refl _) ?_
    refine xn_81 (d := d) 0 63 (by omega) (by omega) (fun r l_r u_r e_r => ?_) (fun n_r => ?_)
    · subst e_r
      show RU_90 (d + 1) (0, 0) Post 16 ([(0, .ref 57), (1, .int (nI a)), (2, .int (nI r)), (3, .int x3), (4, .int x4)]) ([.int 1]) (stt σ τ) 0 0
      refine R_if ck_90_16 (fun c => absurd c (show ¬ (1 : Int32) = 0 from by decide)) (fun _ => ?_)
      refine R_seg sg_90_19 sk_90_19 (pc' := 24) (lv' := [(0, .ref 57), (1, .int (nI a)), (2, .int (nI r)), (3, .int x3), (4, .int x4)]) (st' := [.int 500, .int 1, .int x3]) (S' := stt σ τ) (kc' := 0) (ks' := 0) rfl ⟨trivial, trivial, trivial, trivial⟩ ?_
      refine R_stat ck_90_24 (by decide) [.int x3, .int 1, .int 500] 0 0 (r := []) rfl rfl (Nat.le_of_ble_eq_true rfl) (Nat.le_refl _) (Nat.le_refl _) ?_
      refine xn_81 (d := d) 1 500 (by omega) (by omega) (fun u l_u u_u e_u => ?_) (fun n_u => ?_)
      · subst e_u
        show RU_90 (d + 1) (0, 0) Post 27 ([(0, .ref 57), (1, .int (nI a)), (2, .int (nI r)), (3, .int (nI u)), (4, .int x4)]) ([.int 1]) (stt σ τ) 0 0
        refine R_if ck_90_27 (fun c => absurd c (show ¬ (1 : Int32) = 0 from by decide)) (fun _ => ?_)
        refine R_seg sg_90_30 sk_90_30 (pc' := 35) (lv' := [(0, .ref 57), (1, .int (nI a)), (2, .int (nI r)), (3, .int (nI u)), (4, .int x4)]) (st' := [.int 50, .int 0, .int x4]) (S' := stt σ τ) (kc' := 0) (ks' := 0) rfl ⟨trivial, trivial, trivial, trivial⟩ ?_
        refine R_stat ck_90_35 (by decide) [.int x4, .int 0, .int 50] 0 0 (r := []) rfl rfl (Nat.le_of_ble_eq_true rfl) (Nat.le_refl _) (Nat.le_refl _) ?_
        refine xn_81 (d := d) 0 50 (by omega) (by omega) (fun f l_f u_f e_f => ?_) (fun n_f => ?_)
        · subst e_f
          show RU_90 (d + 1) (0, 0) Post 38 ([(0, .ref 57), (1, .int (nI a)), (2, .int (nI r)), (3, .int (nI u)), (4, .int (nI f))]) ([.int 1]) (stt σ τ) 0 0
          refine R_if ck_90_38 (fun _ => ?_) (fun c => absurd (show ¬ (1 : Int32) = 0 from by decide) c)
          refine R_seg sg_90_43 sk_90_43 (pc' := 49) (lv' := [(0, .ref 57), (1, .int (nI a)), (2, .int (nI r)), (3, .int (nI u)), (4, .int (nI f))]) (st' := [.int (nI r), .int (nI a), .ref 82]) (S' := stt σ τ) (kc' := 0) (ks' := 0) rfl ⟨trivial, rfl, trivial, trivial, trivial⟩ ?_
          refine R_iast ca_90_49 (j := a) rfl rfl (by omega) ?_
          refine R_seg sg_90_50 sk_90_50 (pc' := 56) (lv' := [(0, .ref 57), (1, .int (nI a)), (2, .int (nI r)), (3, .int (nI u)), (4, .int (nI f))]) (st' := [.int (nI u), .int (nI a), .ref 83]) (S' := stt (up2 σ 82 a (nI r)) τ) (kc' := 0) (ks' := 0) rfl ⟨trivial, rfl, trivial, trivial, trivial⟩ ?_
          refine R_iast ca_90_56 (j := a) rfl rfl (by omega) ?_
          refine R_seg sg_90_57 sk_90_57 (pc' := 64) (lv' := [(0, .ref 57), (1, .int (nI a)), (2, .int (nI r)), (3, .int (nI u)), (4, .int (nI f))]) (st' := [.int (nI f), .int (nI a), .ref 84]) (S' := stt (up2 (up2 σ 82 a (nI r)) 83 a (nI u)) τ) (kc' := 0) (ks' := 0) rfl ⟨trivial, rfl, trivial, trivial, trivial⟩ ?_
          refine R_iast ca_90_64 (j := a) rfl rfl (by omega) ?_
          refine R_seg sg_90_65 sk_90_65 (pc' := 75) (lv' := [(0, .ref 57), (1, .int (nI a)), (2, .int (nI r)), (3, .int (nI u)), (4, .int (nI f))]) (st' := [.int (nI a), .ref 85, .int (nI a), .ref 85]) (S' := stt (up2 (up2 (up2 σ 82 a (nI r)) 83 a (nI u)) 84 a (nI f)) τ) (kc' := 0) (ks' := 0) rfl ⟨trivial, rfl, trivial, trivial, rfl, trivial, trivial⟩ ?_
          refine R_iald ca_90_75 (j := a) rfl rfl (by omega) ?_
          refine R_seg sg_90_76 sk_90_76 (pc' := 77) (lv' := [(0, .ref 57), (1, .int (nI a)), (2, .int (nI r)), (3, .int (nI u)), (4, .int (nI f))]) (st' := [.int (nI u), .int (σ 85 a), .int (nI a), .ref 85]) (S' := stt (up2 (up2 (up2 σ 82 a (nI r)) 83 a (nI u)) 84 a (nI f)) τ) (kc' := 0) (ks' := 0) rfl ⟨trivial, trivial⟩ ?_
          refine R_icmp ck_90_77 (fun (c_77 : (σ 85 a) ≤ (nI u)) => ?_) (fun (c_77 : ¬ (σ 85 a) ≤ (nI u)) => ?_)
          · refine R_seg sg_90_84 sk_90_84 (pc' := 89) (lv' := [(0, .ref 57), (1, .int (nI a)), (2, .int (nI r)), (3, .int (nI u)), (4, .int (nI f))]) (st' := [.int (nI a), .ref 85, .int (nI a), .ref 85]) (S' := stt (up2 (up2 (up2 σ 82 a (nI r)) 83 a (nI u)) 84 a (nI f)) τ) (kc' := 0) (ks' := 0) rfl ⟨trivial, rfl, trivial, trivial⟩ ?_
            refine R_iald ca_90_89 (j := a) rfl rfl (by omega) ?_
            refine R_iast ca_90_90 (j := a) rfl rfl (by omega) ?_
            refine R_seg sg_90_91 sk_90_91 (pc' := 92) (lv' := [(0, .ref 57), (1, .int (nI a)), (2, .int (nI r)), (3, .int (nI u)), (4, .int (nI f))]) (st' := [.int 1]) (S' := stt (up2 (up2 (up2 (up2 σ 82 a (nI r)) 83 a (nI u)) 84 a (nI f)) 85 a (σ 85 a)) τ) (kc' := 0) (ks' := 0) rfl ⟨trivial, trivial⟩ ?_
            refine R_iret ck_90_92 rfl rfl ?_
            have key := hs a r u f (by omega) (by omega) (by omega) (by omega) (by omega) rfl rfl rfl rfl
            unfold m_asker at key
            first | (rw [if_pos c_77] at key; exact key) | (rw [if_neg c_77] at key; exact key)
          · refine R_seg sg_90_80 sk_90_80 (pc' := 81) (lv' := [(0, .ref 57), (1, .int (nI a)), (2, .int (nI r)), (3, .int (nI u)), (4, .int (nI f))]) (st' := [.int (nI u), .int (nI a), .ref 85]) (S' := stt (up2 (up2 (up2 σ 82 a (nI r)) 83 a (nI u)) 84 a (nI f)) τ) (kc' := 0) (ks' := 0) rfl ⟨trivial, trivial⟩ ?_
            refine R_goto ck_90_81 ?_
            refine R_iast ca_90_90 (j := a) rfl rfl (by omega) ?_
            refine R_seg sg_90_91 sk_90_91 (pc' := 92) (lv' := [(0, .ref 57), (1, .int (nI a)), (2, .int (nI r)), (3, .int (nI u)), (4, .int (nI f))]) (st' := [.int 1]) (S' := stt (up2 (up2 (up2 (up2 σ 82 a (nI r)) 83 a (nI u)) 84 a (nI f)) 85 a (nI u)) τ) (kc' := 0) (ks' := 0) rfl ⟨trivial, trivial⟩ ?_
            refine R_iret ck_90_92 rfl rfl ?_
            have key := hs a r u f (by omega) (by omega) (by omega) (by omega) (by omega) rfl rfl rfl rfl
            unfold m_asker at key
            first | (rw [if_pos c_77] at key; exact key) | (rw [if_neg c_77] at key; exact key)
        · show RU_90 (d + 1) (0, 0) Post 38 ([(0, .ref 57), (1, .int (nI a)), (2, .int (nI r)), (3, .int (nI u)), (4, .int x4)]) ([.int 0]) (stt σ τ) 0 0
          refine R_if ck_90_38 (fun c => absurd c (show ¬ ¬ (0 : Int32) = 0 from by decide)) (fun _ => ?_)
          refine R_seg sg_90_41 sk_90_41 (pc' := 42) (lv' := [(0, .ref 57), (1, .int (nI a)), (2, .int (nI r)), (3, .int (nI u)), (4, .int x4)]) (st' := [.int 0]) (S' := stt σ τ) (kc' := 0) (ks' := 0) rfl ⟨trivial, trivial⟩ ?_
          refine R_iret ck_90_42 rfl rfl ?_
          exact hf (fun q => by first | exact n_a q.1 | exact n_r q.2.1 | exact n_u q.2.2.1 | exact n_f q.2.2.2)
      · show RU_90 (d + 1) (0, 0) Post 27 ([(0, .ref 57), (1, .int (nI a)), (2, .int (nI r)), (3, .int x3), (4, .int x4)]) ([.int 0]) (stt σ τ) 0 0
        refine R_if ck_90_27 (fun _ => ?_) (fun c => absurd (show (0 : Int32) = 0 from by decide) c)
        refine R_seg sg_90_41 sk_90_41 (pc' := 42) (lv' := [(0, .ref 57), (1, .int (nI a)), (2, .int (nI r)), (3, .int x3), (4, .int x4)]) (st' := [.int 0]) (S' := stt σ τ) (kc' := 0) (ks' := 0) rfl ⟨trivial, trivial⟩ ?_
        refine R_iret ck_90_42 rfl rfl ?_
        exact hf (fun q => by first | exact n_a q.1 | exact n_r q.2.1 | exact n_u q.2.2.1 | exact n_f q.2.2.2)
    · show RU_90 (d + 1) (0, 0) Post 16 ([(0, .ref 57), (1, .int (nI a)), (2, .int x2), (3, .int x3), (4, .int x4)]) ([.int 0]) (stt σ τ) 0 0
      refine R_if ck_90_16 (fun _ => ?_) (fun c => absurd (show (0 : Int32) = 0 from by decide) c)
      refine R_seg sg_90_41 sk_90_41 (pc' := 42) (lv' := [(0, .ref 57), (1, .int (nI a)), (2, .int x2), (3, .int x3), (4, .int x4)]) (st' := [.int 0]) (S' := stt σ τ) (kc' := 0) (ks' := 0) rfl ⟨trivial, trivial⟩ ?_
      refine R_iret ck_90_42 rfl rfl ?_
      exact hf (fun q => by first | exact n_a q.1 | exact n_r q.2.1 | exact n_u q.2.2.1 | exact n_f q.2.2.2)
  · show RU_90 (d + 1) (0, 0) Post 6 ([(0, .ref 57), (1, .int x1), (2, .int x2), (3, .int x3), (4, .int x4)]) ([.int 0]) (stt σ τ) 0 0
    refine R_if ck_90_6 (fun _ => ?_) (fun c => absurd (show (0 : Int32) = 0 from by decide) c)
    refine R_seg sg_90_41 sk_90_41 (pc' := 42) (lv' := [(0, .ref 57), (1, .int x1), (2, .int x2), (3, .int x3), (4, .int x4)]) (st' := [.int 0]) (S' := stt σ τ) (kc' := 0) (ks' := 0) rfl ⟨trivial, trivial⟩ ?_
    refine R_iret ck_90_42 rfl rfl ?_
    exact hf (fun q => by first | exact n_a q.1 | exact n_r q.2.1 | exact n_u q.2.2.1 | exact n_f q.2.2.2)
