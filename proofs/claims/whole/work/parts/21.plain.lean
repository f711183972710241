/-! ===== AnswerDoor: plain methods ===== -/
def h_close (σ : Nat → Nat → Int32) (k : Nat) : Nat → Nat → Int32 := up2 (up2 (up2 σ k 5 1) k 6 0) k 8 (-1)
set_option maxRecDepth 20000 in
theorem x_9 {d : Nat} {σ : Nat → Nat → Int32} {τ : Nat → Nat → Int64} {k : Nat} (hk : kd0[k]? = some (2, 9)) {Post : Option Value → Sto → Prop} (hp : Post none (stt (h_close σ k) τ)) : Ex (d + 1) 9 [.ref k] (stt σ τ) 0 0 Post := by
  refine en_9 (Nat.le_of_ble_eq_true rfl) ?_
  show RU_9 d (0, 0) Post 0 ([(0, .ref k)]) ([]) (stt σ τ) 0 0
  refine R_seg sg_9_0 sk_9_0 (pc' := 15) (lv' := [(0, .ref k)]) (st' := []) (S' := stt (up2 (up2 (up2 σ k 5 1) k 6 0) k 8 (-1)) τ) (kc' := 0) (ks' := 0) rfl ⟨trivial, trivial, ⟨hk, ⟨rfl, rfl⟩⟩, trivial, trivial, ⟨hk, ⟨rfl, rfl⟩⟩, trivial, trivial, ⟨hk, ⟨rfl, rfl⟩⟩, trivial⟩ ?_
  refine R_ret ck_9_15 rfl ?_
  exact hp
def c_helper (σ : Nat → Nat → Int32) (h dl bt rt fl wt : Nat) : Nat → Nat → Int32 := h_close (up2 (up2 (up2 (up2 (up2 σ (11 + h) 0 (nI dl)) (11 + h) 1 (nI bt)) (11 + h) 2 (nI rt)) (11 + h) 3 (nI fl)) (11 + h) 4 (nI wt)) (11 + h)
set_option maxRecDepth 20000 in
theorem x_56 {d : Nat} {σ : Nat → Nat → Int32} {τ : Nat → Nat → Int64} {x1 x2 x3 x4 x5 x6 : Int32} {Post : Option Value → Sto → Prop} (hs : ∀ h dl bt rt fl wt : Nat, h < 5 → 1 ≤ dl → dl ≤ 9 → 1 ≤ bt → bt ≤ 8 → 1 ≤ rt → rt ≤ 8 → fl ≤ 9 → 1 ≤ wt → wt ≤ 99 → x1 = nI h → x2 = nI dl → x3 = nI bt → x4 = nI rt → x5 = nI fl → x6 = nI wt → Post (some (.int 1)) (stt (c_helper σ h dl bt rt fl wt) τ)) (hf : ¬ (rg x1 0 4 ∧ rg x2 1 9 ∧ rg x3 1 8 ∧ rg x4 1 8 ∧ rg x5 0 9 ∧ rg x6 1 99) → Post (some (.int 0)) (stt σ τ)) : Ex (d + 2) 56 [.ref 0, .int x1, .int x2, .int x3, .int x4, .int x5, .int x6] (stt σ τ) 0 0 Post := by
  refine en_56 (Nat.le_of_ble_eq_true rfl) ?_
  show RU_56 (d + 1) (0, 0) Post 0 ([(0, .ref 0), (1, .int x1), (2, .int x2), (3, .int x3), (4, .int x4), (5, .int x5), (6, .int x6)]) ([]) (stt σ τ) 0 0
  refine R_seg sg_56_0 sk_56_0 (pc' := 3) (lv' := [(0, .ref 0), (1, .int x1), (2, .int x2), (3, .int x3), (4, .int x4), (5, .int x5), (6, .int x6)]) (st' := [.int 4, .int 0, .int x1]) (S' := stt σ τ) (kc' := 0) (ks' := 0) rfl ⟨trivial, trivial, trivial, trivial⟩ ?_
  refine R_stat ck_56_3 (by decide) [.int x1, .int 0, .int 4] 0 0 (r := []) rfl rfl (Nat.le_of_ble_eq_true rfl) (Nat.le_refl _) (Nat.le_refl _) ?_
  refine xn_57 (d := d) 0 4 (by decide) (by decide) (fun h l_h u_h e_h => ?_) (fun n_h => ?_)
  · subst e_h
    show RU_56 (d + 1) (0, 0) Post 6 ([(0, .ref 0), (1, .int (nI h)), (2, .int x2), (3, .int x3), (4, .int x4), (5, .int x5), (6, .int x6)]) ([.int 1]) (stt σ τ) 0 0
    refine R_if ck_56_6 (fun c => absurd c (show ¬ (1 : Int32) = 0 from by decide)) (fun _ => ?_)
    refine R_seg sg_56_9 sk_56_9 (pc' := 13) (lv' := [(0, .ref 0), (1, .int (nI h)), (2, .int x2), (3, .int x3), (4, .int x4), (5, .int x5), (6, .int x6)]) (st' := [.int 9, .int 1, .int x2]) (S' := stt σ τ) (kc' := 0) (ks' := 0) rfl ⟨trivial, trivial, trivial, trivial⟩ ?_
    refine R_stat ck_56_13 (by decide) [.int x2, .int 1, .int 9] 0 0 (r := []) rfl rfl (Nat.le_of_ble_eq_true rfl) (Nat.le_refl _) (Nat.le_refl _) ?_
    refine xn_57 (d := d) 1 9 (by decide) (by decide) (fun dl l_dl u_dl e_dl => ?_) (fun n_dl => ?_)
    · subst e_dl
      show RU_56 (d + 1) (0, 0) Post 16 ([(0, .ref 0), (1, .int (nI h)), (2, .int (nI dl)), (3, .int x3), (4, .int x4), (5, .int x5), (6, .int x6)]) ([.int 1]) (stt σ τ) 0 0
      refine R_if ck_56_16 (fun c => absurd c (show ¬ (1 : Int32) = 0 from by decide)) (fun _ => ?_)
      refine R_seg sg_56_19 sk_56_19 (pc' := 23) (lv' := [(0, .ref 0), (1, .int (nI h)), (2, .int (nI dl)), (3, .int x3), (4, .int x4), (5, .int x5), (6, .int x6)]) (st' := [.int 8, .int 1, .int x3]) (S' := stt σ τ) (kc' := 0) (ks' := 0) rfl ⟨trivial, trivial, trivial, trivial⟩ ?_
      refine R_stat ck_56_23 (by decide) [.int x3, .int 1, .int 8] 0 0 (r := []) rfl rfl (Nat.le_of_ble_eq_true rfl) (Nat.le_refl _) (Nat.le_refl _) ?_
      refine xn_57 (d := d) 1 8 (by decide) (by decide) (fun bt l_bt u_bt e_bt => ?_) (fun n_bt => ?_)
      · subst e_bt
        show RU_56 (d + 1) (0, 0) Post 26 ([(0, .ref 0), (1, .int (nI h)), (2, .int (nI dl)), (3, .int (nI bt)), (4, .int x4), (5, .int x5), (6, .int x6)]) ([.int 1]) (stt σ τ) 0 0
        refine R_if ck_56_26 (fun c => absurd c (show ¬ (1 : Int32) = 0 from by decide)) (fun _ => ?_)
        refine R_seg sg_56_29 sk_56_29 (pc' := 34) (lv' := [(0, .ref 0), (1, .int (nI h)), (2, .int (nI dl)), (3, .int (nI bt)), (4, .int x4), (5, .int x5), (6, .int x6)]) (st' := [.int 8, .int 1, .int x4]) (S' := stt σ τ) (kc' := 0) (ks' := 0) rfl ⟨trivial, trivial, trivial, trivial⟩ ?_
        refine R_stat ck_56_34 (by decide) [.int x4, .int 1, .int 8] 0 0 (r := []) rfl rfl (Nat.le_of_ble_eq_true rfl) (Nat.le_refl _) (Nat.le_refl _) ?_
        refine xn_57 (d := d) 1 8 (by decide) (by decide) (fun rt l_rt u_rt e_rt => ?_) (fun n_rt => ?_)
        · subst e_rt
          show RU_56 (d + 1) (0, 0) Post 37 ([(0, .ref 0), (1, .int (nI h)), (2, .int (nI dl)), (3, .int (nI bt)), (4, .int (nI rt)), (5, .int x5), (6, .int x6)]) ([.int 1]) (stt σ τ) 0 0
          refine R_if ck_56_37 (fun c => absurd c (show ¬ (1 : Int32) = 0 from by decide)) (fun _ => ?_)
          refine R_seg sg_56_40 sk_56_40 (pc' := 45) (lv' := [(0, .ref 0), (1, .int (nI h)), (2, .int (nI dl)), (3, .int (nI bt)), (4, .int (nI rt)), (5, .int x5), (6, .int x6)]) (st' := [.int 9, .int 0, .int x5]) (S' := stt σ τ) (kc' := 0) (ks' := 0) rfl ⟨trivial, trivial, trivial, trivial⟩ ?_
          refine R_stat ck_56_45 (by decide) [.int x5, .int 0, .int 9] 0 0 (r := []) rfl rfl (Nat.le_of_ble_eq_true rfl) (Nat.le_refl _) (Nat.le_refl _) ?_
          refine xn_57 (d := d) 0 9 (by decide) (by decide) (fun fl l_fl u_fl e_fl => ?_) (fun n_fl => ?_)
          · subst e_fl
            show RU_56 (d + 1) (0, 0) Post 48 ([(0, .ref 0), (1, .int (nI h)), (2, .int (nI dl)), (3, .int (nI bt)), (4, .int (nI rt)), (5, .int (nI fl)), (6, .int x6)]) ([.int 1]) (stt σ τ) 0 0
            refine R_if ck_56_48 (fun c => absurd c (show ¬ (1 : Int32) = 0 from by decide)) (fun _ => ?_)
            refine R_seg sg_56_51 sk_56_51 (pc' := 56) (lv' := [(0, .ref 0), (1, .int (nI h)), (2, .int (nI dl)), (3, .int (nI bt)), (4, .int (nI rt)), (5, .int (nI fl)), (6, .int x6)]) (st' := [.int 99, .int 1, .int x6]) (S' := stt σ τ) (kc' := 0) (ks' := 0) rfl ⟨trivial, trivial, trivial, trivial⟩ ?_
            refine R_stat ck_56_56 (by decide) [.int x6, .int 1, .int 99] 0 0 (r := []) rfl rfl (Nat.le_of_ble_eq_true rfl) (Nat.le_refl _) (Nat.le_refl _) ?_
            refine xn_57 (d := d) 1 99 (by decide) (by decide) (fun wt l_wt u_wt e_wt => ?_) (fun n_wt => ?_)
            · subst e_wt
              show RU_56 (d + 1) (0, 0) Post 59 ([(0, .ref 0), (1, .int (nI h)), (2, .int (nI dl)), (3, .int (nI bt)), (4, .int (nI rt)), (5, .int (nI fl)), (6, .int (nI wt))]) ([.int 1]) (stt σ τ) 0 0
              refine R_if ck_56_59 (fun _ => ?_) (fun c => absurd (show ¬ (1 : Int32) = 0 from by decide) c)
              refine R_seg sg_56_64 sk_56_64 (pc' := 72) (lv' := [(0, .ref 0), (1, .int (nI h)), (2, .int (nI dl)), (3, .int (nI bt)), (4, .int (nI rt)), (5, .int (nI fl)), (6, .int (nI wt))]) (st' := [.int (nI h), .ref 7]) (S' := stt σ τ) (kc' := 0) (ks' := 0) rfl ⟨trivial, rfl, rfl, trivial, trivial⟩ ?_
              refine R_aald ca_56_72 (j := h) (k' := 11 + h) rfl rfl (by omega) (rh_each (by omega)) ?_
              refine R_seg sg_56_73 sk_56_73 (pc' := 110) (lv' := [(7, .ref (11 + h)), (0, .ref 0), (1, .int (nI h)), (2, .int (nI dl)), (3, .int (nI bt)), (4, .int (nI rt)), (5, .int (nI fl)), (6, .int (nI wt))]) (st' := [.ref (11 + h)]) (S' := stt (up2 (up2 (up2 (up2 (up2 σ (11 + h) 0 (nI dl)) (11 + h) 1 (nI bt)) (11 + h) 2 (nI rt)) (11 + h) 3 (nI fl)) (11 + h) 4 (nI wt)) τ) (kc' := 0) (ks' := 0) rfl ⟨(by decide), trivial, trivial, ⟨(kd_help (by omega)), ⟨rfl, rfl⟩⟩, trivial, trivial, ⟨(kd_help (by omega)), ⟨rfl, rfl⟩⟩, trivial, trivial, ⟨(kd_help (by omega)), ⟨rfl, rfl⟩⟩, trivial, trivial, ⟨(kd_help (by omega)), ⟨rfl, rfl⟩⟩, trivial, trivial, ⟨(kd_help (by omega)), ⟨rfl, rfl⟩⟩, trivial, trivial⟩ ?_
              refine R_virt ck_56_110 (11 + h) [] 0 0 (r := []) rfl rfl (kd_help (by omega)) (Nat.le_of_ble_eq_true rfl) (Nat.le_refl _) (Nat.le_refl _) ?_
              refine x_9 (d := d) (kd_help (by omega)) ?_
              show RU_56 (d + 1) (0, 0) Post 113 ([(7, .ref (11 + h)), (0, .ref 0), (1, .int (nI h)), (2, .int (nI dl)), (3, .int (nI bt)), (4, .int (nI rt)), (5, .int (nI fl)), (6, .int (nI wt))]) ([]) (stt (h_close (up2 (up2 (up2 (up2 (up2 σ (11 + h) 0 (nI dl)) (11 + h) 1 (nI bt)) (11 + h) 2 (nI rt)) (11 + h) 3 (nI fl)) (11 + h) 4 (nI wt)) (11 + h)) τ) 0 0
              refine R_seg sg_56_113 sk_56_113 (pc' := 114) (lv' := [(7, .ref (11 + h)), (0, .ref 0), (1, .int (nI h)), (2, .int (nI dl)), (3, .int (nI bt)), (4, .int (nI rt)), (5, .int (nI fl)), (6, .int (nI wt))]) (st' := [.int 1]) (S' := stt (h_close (up2 (up2 (up2 (up2 (up2 σ (11 + h) 0 (nI dl)) (11 + h) 1 (nI bt)) (11 + h) 2 (nI rt)) (11 + h) 3 (nI fl)) (11 + h) 4 (nI wt)) (11 + h)) τ) (kc' := 0) (ks' := 0) rfl ⟨trivial, trivial⟩ ?_
              refine R_iret ck_56_114 rfl rfl ?_
              exact hs h dl bt rt fl wt (by omega) (by omega) (by omega) (by omega) (by omega) (by omega) (by omega) (by omega) (by omega) (by omega) rfl rfl rfl rfl rfl rfl
            · show RU_56 (d + 1) (0, 0) Post 59 ([(0, .ref 0), (1, .int (nI h)), (2, .int (nI dl)), (3, .int (nI bt)), (4, .int (nI rt)), (5, .int (nI fl)), (6, .int x6)]) ([.int 0]) (stt σ τ) 0 0
              refine R_if ck_56_59 (fun c => absurd c (show ¬ ¬ (0 : Int32) = 0 from by decide)) (fun _ => ?_)
              refine R_seg sg_56_62 sk_56_62 (pc' := 63) (lv' := [(0, .ref 0), (1, .int (nI h)), (2, .int (nI dl)), (3, .int (nI bt)), (4, .int (nI rt)), (5, .int (nI fl)), (6, .int x6)]) (st' := [.int 0]) (S' := stt σ τ) (kc' := 0) (ks' := 0) rfl ⟨trivial, trivial⟩ ?_
              refine R_iret ck_56_63 rfl rfl ?_
              exact hf (fun q => by first | exact n_h q.1 | exact n_dl q.2.1 | exact n_bt q.2.2.1 | exact n_rt q.2.2.2.1 | exact n_fl q.2.2.2.2.1 | exact n_wt q.2.2.2.2.2)
          · show RU_56 (d + 1) (0, 0) Post 48 ([(0, .ref 0), (1, .int (nI h)), (2, .int (nI dl)), (3, .int (nI bt)), (4, .int (nI rt)), (5, .int x5), (6, .int x6)]) ([.int 0]) (stt σ τ) 0 0
            refine R_if ck_56_48 (fun _ => ?_) (fun c => absurd (show (0 : Int32) = 0 from by decide) c)
            refine R_seg sg_56_62 sk_56_62 (pc' := 63) (lv' := [(0, .ref 0), (1, .int (nI h)), (2, .int (nI dl)), (3, .int (nI bt)), (4, .int (nI rt)), (5, .int x5), (6, .int x6)]) (st' := [.int 0]) (S' := stt σ τ) (kc' := 0) (ks' := 0) rfl ⟨trivial, trivial⟩ ?_
            refine R_iret ck_56_63 rfl rfl ?_
            exact hf (fun q => by first | exact n_h q.1 | exact n_dl q.2.1 | exact n_bt q.2.2.1 | exact n_rt q.2.2.2.1 | exact n_fl q.2.2.2.2.1 | exact n_wt q.2.2.2.2.2)
        · show RU_56 (d + 1) (0, 0) Post 37 ([(0, .ref 0), (1, .int (nI h)), (2, .int (nI dl)), (3, .int (nI bt)), (4, .int x4), (5, .int x5), (6, .int x6)]) ([.int 0]) (stt σ τ) 0 0
          refine R_if ck_56_37 (fun _ => ?_) (fun c => absurd (show (0 : Int32) = 0 from by decide) c)
          refine R_seg sg_56_62 sk_56_62 (pc' := 63) (lv' := [(0, .ref 0), (1, .int (nI h)), (2, .int (nI dl)), (3, .int (nI bt)), (4, .int x4), (5, .int x5), (6, .int x6)]) (st' := [.int 0]) (S' := stt σ τ) (kc' := 0) (ks' := 0) rfl ⟨trivial, trivial⟩ ?_
          refine R_iret ck_56_63 rfl rfl ?_
          exact hf (fun q => by first | exact n_h q.1 | exact n_dl q.2.1 | exact n_bt q.2.2.1 | exact n_rt q.2.2.2.1 | exact n_fl q.2.2.2.2.1 | exact n_wt q.2.2.2.2.2)
      · show RU_56 (d + 1) (0, 0) Post 26 ([(0, .ref 0), (1, .int (nI h)), (2, .int (nI dl)), (3, .int x3), (4, .int x4), (5, .int x5), (6, .int x6)]) ([.int 0]) (stt σ τ) 0 0
        refine R_if ck_56_26 (fun _ => ?_) (fun c => absurd (show (0 : Int32) = 0 from by decide) c)
        refine R_seg sg_56_62 sk_56_62 (pc' := 63) (lv' := [(0, .ref 0), (1, .int (nI h)), (2, .int (nI dl)), (3, .int x3), (4, .int x4), (5, .int x5), (6, .int x6)]) (st' := [.int 0]) (S' := stt σ τ) (kc' := 0) (ks' := 0) rfl ⟨trivial, trivial⟩ ?_
        refine R_iret ck_56_63 rfl rfl ?_
        exact hf (fun q => by first | exact n_h q.1 | exact n_dl q.2.1 | exact n_bt q.2.2.1 | exact n_rt q.2.2.2.1 | exact n_fl q.2.2.2.2.1 | exact n_wt q.2.2.2.2.2)
    · show RU_56 (d + 1) (0, 0) Post 16 ([(0, .ref 0), (1, .int (nI h)), (2, .int x2), (3, .int x3), (4, .int x4), (5, .int x5), (6, .int x6)]) ([.int 0]) (stt σ τ) 0 0
      refine R_if ck_56_16 (fun _ => ?_) (fun c => absurd (show (0 : Int32) = 0 from by decide) c)
      refine R_seg sg_56_62 sk_56_62 (pc' := 63) (lv' := [(0, .ref 0), (1, .int (nI h)), (2, .int x2), (3, .int x3), (4, .int x4), (5, .int x5), (6, .int x6)]) (st' := [.int 0]) (S' := stt σ τ) (kc' := 0) (ks' := 0) rfl ⟨trivial, trivial⟩ ?_
      refine R_iret ck_56_63 rfl rfl ?_
      exact hf (fun q => by first | exact n_h q.1 | exact n_dl q.2.1 | exact n_bt q.2.2.1 | exact n_rt q.2.2.2.1 | exact n_fl q.2.2.2.2.1 | exact n_wt q.2.2.2.2.2)
  · show RU_56 (d + 1) (0, 0) Post 6 ([(0, .ref 0), (1, .int x1), (2, .int x2), (3, .int x3), (4, .int x4), (5, .int x5), (6, .int x6)]) ([.int 0]) (stt σ τ) 0 0
    refine R_if ck_56_6 (fun _ => ?_) (fun c => absurd (show (0 : Int32) = 0 from by decide) c)
    refine R_seg sg_56_62 sk_56_62 (pc' := 63) (lv' := [(0, .ref 0), (1, .int x1), (2, .int x2), (3, .int x3), (4, .int x4), (5, .int x5), (6, .int x6)]) (st' := [.int 0]) (S' := stt σ τ) (kc' := 0) (ks' := 0) rfl ⟨trivial, trivial⟩ ?_
    refine R_iret ck_56_63 rfl rfl ?_
    exact hf (fun q => by first | exact n_h q.1 | exact n_dl q.2.1 | exact n_bt q.2.2.1 | exact n_rt q.2.2.2.1 | exact n_fl q.2.2.2.2.1 | exact n_wt q.2.2.2.2.2)
