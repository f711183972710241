/-! ===== AnswerDoor: plain methods ===== -/
def h_close (σ : Nat → Nat → Int32) (k : Nat) : Nat → Nat → Int32 := up2 (up2 (up2 σ k 5 1) k 6 0) k 8 (-1)
set_option maxRecDepth 20000 in
theorem x_9 {d : Nat} {σ : Nat → Nat → Int32} {τ : Nat → Nat → Int64} {k : Nat} (hk : kd0[k]? = some (2, 9)) {Post : Option Value → Sto → Prop} (hp : Post none (stt (h_close σ k) τ)) : Ex (d + 1) 9 [.ref k] (stt σ τ) 0 0 Post := by
  refine en_9 (Nat.le_of_ble_eq_true rfl) ?_
  show RU_9 d (0, 0) Post 0 ([(0, .ref k)]) ([]) (stt σ τ) 0 0
  refine R_seg sg_9_0 sk_9_0 (pc' := 15) (lv' := [(0, .ref k)]) (st' := []) (S' := stt (up2 (up2 (up2 σ k 5 1) k 6 0) k 8 (-1)) τ) (kc' := 0) (ks' := 0) rfl ⟨trivial, trivial, ⟨hk, ⟨rfl, rfl⟩⟩, trivial, trivial, ⟨hk, ⟨rfl, rfl⟩⟩, trivial, trivial, ⟨hk, ⟨rfl, rfl⟩⟩, trivial⟩ ?_
  refine R_ret ck_9_15 rfl ?_
  exact hp
def c_helper (σ : Nat → Nat → Int32) (h dl bt rt fl wt : Nat) : Nat → Nat → Int32 := h_close (up2 (up2 (up2 (up2 (up2 σ (11 + h) 0 (nI dl)) (11 + h) 1 (nI bt)) (11 + h) 2 (nI rt)) (11 + h) 3 (nI fl)) (11 + h) 4 (nI wt)) (11 + h)
set_option maxRecDepth 20000 in
theorem x_56 {d : Nat} {σ : Nat → Nat → Int32} {τ : Nat → Nat → Int64} {x1 x2 x3 x4 x5 x6 : Int32} {Post : Option Value → Sto → Prop} (hs : ∀ h dl bt rt fl wt : Nat, h < 5 → 1 ≤ dl → dl ≤ 9 → 1 ≤ bt → bt ≤ 8 → 1 ≤ rt → rt ≤ 8 → fl ≤ 9 → 1 ≤ wt → wt ≤ 99 → x1 = nI h → x2 = nI dl → x3 = nI bt → x4 = nI rt → x5 = nI fl → x6 = nI wt → Post (some (.int 1)) (stt (c_helper σ h dl bt rt fl wt) τ)) (hf : ¬ (rg x1 0 4 ∧ rg x2 1 9 ∧ rg x3 1 8 ∧ rg x4 1 8 ∧ rg x5 0 9 ∧ rg x6 1 99) → Post (some (.int 0)) (stt σ τ)) : Ex (d + 2) 56 [.ref 0, .int x1, .int x2, .int x3, .int x4, .int x5, .int x6] (stt σ τ) 0 0 Post := by
  refine en_56 (Nat.le_of_ble_eq_true rfl) ?_
  show RU_56 (d + 1) (0, 0) Post 0 ([(0, .ref 0), (1, .int x1), (2, .int x2), (3, .int x3), (4, .int x4), (5, .int x5), (6, .int x6)]) ([]) (stt σ τ) 0 0
  refine R_seg sg_56_0 sk_56_0 (pc' := 3) (lv' := [(0, .ref 0), (1, .int x1), (2, .int x2), (3, .int x3), (4, .int x4), (5, .int x5), (6, .int x6)]) (st' := [.int 4, .int 0, .int x1]) (S' := stt σ τ) (kc' := 0) (ks' := 0) rfl ⟨trivial, trivial, trivial, trivial⟩ ?_
  refine R_stat ck_56_3 (by decide) [.int x1, .int 0, .int 4] 0 0 (r := []) rfl rfl (Nat.le_of_ble_eq_true rfl) (Nat.le_refl _) (Nat.le_refl _) ?_
  refine xn_57 (d := d) 0 4 (by omega) (by omega) (fun h l_h u_h e_h => ?_) (fun n_h => ?_)
  · subst e_h
    show RU_56 (d + 1) (0, 0) Post 6 ([(0, .ref 0), (1, .int (nI h)), (2, .int x2), (3, .int x3), (4, .int x4), (5, .int x5), (6, .int x6)]) ([.int 1]) (stt σ τ) 0 0
    refine R_if ck_56_6 (fun c => absurd c (show ¬ (1 : Int32) = 0 from by decide)) (fun _ => ?_)
    refine R_seg sg_56_9 sk_56_9 (pc' := 13) (lv' := [(0, .ref 0), (1, .int (nI h)), (2, .int x2), (3, .int x3), (4, .int x4), (5, .int x5), (6, .int x6)]) (st' := [.int 9, .int 1, .int x2]) (S' := stt σ τ) (kc' := 0) (ks' := 0) rfl ⟨trivial, trivial, trivial, trivial⟩ ?_
    refine R_stat ck_56_13 (by decide) [.int x2, .int 1, .int 9] 0 0 (r := []) rfl rfl (Nat.le_of_ble_eq_true rfl) (Nat.le_refl _) (Nat.le_refl _) ?_
    refine xn_57 (d := d) 1 9 (by omega) (by omega) (fun dl l_dl u_dl e_dl => ?_) (fun n_dl => ?_)
    · subst e_dl
      show RU_56 (d + 1) (0, 0) Post 16 ([(0, .ref 0), (1, .int (nI h)), (2, .int (nI dl)), (3, .int x3), (4, .int x4), (5, .int x5), (6, .int x6)]) ([.int 1]) (stt σ τ) 0 0
      refine R_if ck_56_16 (fun c => absurd c (show ¬ (1 : Int32) = 0 from by decide)) (fun _ => ?_)
      refine R_seg sg_56_19 sk_56_19 (pc' := 23) (lv' := [(0, .ref 0), (1, .int (nI h)), (2, .int (nI dl)), (3, .int x3), (4, .int x4), (5, .int x5), (6, .int x6)]) (st' := [.int 8, .int 1, .int x3]) (S' := stt σ τ) (kc' := 0) (ks' := 0) rfl ⟨trivial, trivial, trivial, trivial⟩ ?_
      refine R_stat ck_56_23 (by decide) [.int x3, .int 1, .int 8] 0 0 (r := []) rfl rfl (Nat.le_of_ble_eq_true rfl) (Nat.le_refl _) (Nat.le_refl _) ?_
      refine xn_57 (d := d) 1 8 (by omega) (by omega) (fun bt l_bt u_bt e_bt => ?_) (fun n_bt => ?_)
      · subst e_bt
        show RU_56 (d + 1) (0, 0) Post 26 ([(0, .ref 0), (1, .int (nI h)), (2, .int (nI dl)), (3, .int (nI bt)), (4, .int x4), (5, .int x5), (6, .int x6)]) ([.int 1]) (stt σ τ) 0 0
        refine R_if ck_56_26 (fun c => absurd c (show ¬ (1 : Int32) = 0 from by decide)) (fun _ => ?_)
        refine R_seg sg_56_29 sk_56_29 (pc' := 34) (lv' := [(0, .ref 0), (1, .int (nI h)), (2, .int (nI dl)), (3, .int (nI bt)), (4, .int x4), (5, .int x5), (6, .int x6)]) (st' := [.int 8, .int 1, .int x4]) (S' := stt σ τ) (kc' := 0) (ks' := 0) rfl ⟨trivial, trivial, trivial, trivial⟩ ?_
        refine R_stat ck_56_34 (by decide) [.int x4, .int 1, .int 8] 0 0 (r := []) rfl rfl (Nat.le_of_ble_eq_true rfl) (Nat.le_refl _) (Nat.le_refl _) ?_
        refine xn_57 (d := d) 1 8 (by omega) (by omega) (fun rt l_rt u_rt e_rt => ?_) (fun n_rt => ?_)
        · subst e_rt
          show RU_56 (d + 1) (0, 0) Post 37 ([(0, .ref 0), (1, .int (nI h)), (2, .int (nI dl)), (3, .int (nI bt)), (4, .int (nI rt)), (5, .int x5), (6, .int x6)]) ([.int 1]) (stt σ τ) 0 0
          refine R_if ck_56_37 (fun c => absurd c (show ¬ (1 : Int32) = 0 from by decide)) (fun _ => ?_)
          refine R_seg sg_56_40 sk_56_40 (pc' := 45) (lv' := [(0, .ref 0), (1, .int (nI h)), (2, .int (nI dl)), (3, .int (nI bt)), (4, .int (nI rt)), (5, .int x5), (6, .int x6)]) (st' := [.int 9, .int 0, .int x5]) (S' := stt σ τ) (kc' := 0) (ks' := 0) rfl ⟨trivial, trivial, trivial, trivial⟩ ?_
          refine R_stat ck_56_45 (by decide) [.int x5, .int 0, .int 9] 0 0 (r := []) rfl rfl (Nat.le_of_ble_eq_true rfl) (Nat.le_refl _) (Nat.le_refl _) ?_
          refine xn_57 (d := d) 0 9 (by omega) (by omega) (fun fl l_fl u_fl e_fl => ?_) (fun n_fl => ?_)
          · subst e_fl
            show RU_56 (d + 1) (0, 0) Post 48 ([(0, .ref 0), (1, .int (nI h)), (2, .int (nI dl)), (3, .int (nI bt)), (4, .int (nI rt)), (5, .int (nI fl)), (6, .int x6)]) ([.int 1]) (stt σ τ) 0 0
            refine R_if ck_56_48 (fun c => absurd c (show ¬ (1 : Int32) = 0 from by decide)) (fun _ => ?_)
            refine R_seg sg_56_51 sk_56_51 (pc' := 56) (lv' := [(0, .ref 0), (1, .int (nI h)), (2, .int (nI dl)), (3, .int (nI bt)), (4, .int (nI rt)), (5, .int (nI fl)), (6, .int x6)]) (st' := [.int 99, .int 1, .int x6]) (S' := stt σ τ) (kc' := 0) (ks' := 0) rfl ⟨trivial, trivial, trivial, trivial⟩ ?_
            refine R_stat ck_56_56 (by decide) [.int x6, .int 1, .int 99] 0 0 (r := []) rfl rfl (Nat.le_of_ble_eq_true rfl) (Nat.le_refl _) (Nat.le_refl _) ?_
            refine xn_57 (d := d) 1 99 (by omega) (by omega) (fun wt l_wt u_wt e_wt => ?_) (fun n_wt => ?_)
            · subst e_wt
              show RU_56 (d + 1) (0, 0) Post 59 ([(0, .ref 0), (1, .int (nI h)), (2, .int (nI dl)), (3, .int (nI bt)), (4, .int (nI rt)), (5, .int (nI fl)), (6, .int (nI wt))]) ([.int 1]) (stt σ τ) 0 0
              refine R_if ck_56_59 (fun _ => ?_) (fun c => absurd (show ¬ (1 : Int32) = 0 from by decide) c)
              refine R_seg sg_56_64 sk_56_64 (pc' := 72) (lv' := [(0, .ref 0), (1, .int (nI h)), (2, .int (nI dl)), (3, .int (nI bt)), (4, .int (nI rt)), (5, .int (nI fl)), (6, .int (nI wt))]) (st' := [.int (nI h), .ref 7]) (S' := stt σ τ) (kc' := 0) (ks' := 0) rfl ⟨trivial, rfl, rfl, trivial, trivial⟩ ?_
              refine R_aald ca_56_72 (j := h) (k' := 11 + h) rfl rfl (by omega) (rh_each (by omega)) ?_
              refine R_seg sg_56_73 sk_56_73 (pc' := 110) (lv' := [(7, .ref (11 + h)), (0, .ref 0), (1, .int (nI h)), (2, .int (nI dl)), (3, .int (nI bt)), (4, .int (nI rt)), (5, .int (nI fl)), (6, .int (nI wt))]) (st' := [.ref (11 + h)]) (S' := stt (up2 (up2 (up2 (up2 (up2 σ (11 + h) 0 (nI dl)) (11 + h) 1 (nI bt)) (11 + h) 2 (nI rt)) (11 + h) 3 (nI fl)) (11 + h) 4 (nI wt)) τ) (kc' := 0) (ks' := 0) rfl ⟨(by decide), trivial, trivial, ⟨(kd_help (by omega)), ⟨rfl, rfl⟩⟩, trivial, trivial, ⟨(kd_help (by omega)), ⟨rfl, rfl⟩⟩, trivial, trivial, ⟨(kd_help (by omega)), ⟨rfl, rfl⟩⟩, trivial, trivial, ⟨(kd_help (by omega)), ⟨rfl, rfl⟩⟩, trivial, trivial, ⟨(kd_help (by omega)), ⟨rfl, rfl⟩⟩, trivial, trivial⟩ ?_
              refine R_virt ck_56_110 (11 + h) [] 0 0 (r := []) rfl rfl (kd_help (by omega)) (Nat.le_of_ble_eq_true rfl) (Nat.le_refl _) (Nat.le_refl _) ?_
              refine x_9 (d := d) (kd_help (by omega)) ?_
              show RU_56 (d + 1) (0, 0) Post 113 ([(7, .ref (11 + h)), (0, .ref 0), (1, .int (nI h)), (2, .int (nI dl)), (3, .int (nI bt)), (4, .int (nI rt)), (5, .int (nI fl)), (6, .int (nI wt))]) ([]) (stt (h_close (up2 (up2 (up2 (up2 (up2 σ (11 + h) 0 (nI dl)) (11 + h) 1 (nI bt)) (11 + h) 2 (nI rt)) (11 + h) 3 (nI fl)) (11 + h) 4 (nI wt)) (11 + h)) τ) 0 0
              refine R_seg sg_56_113 sk_56_113 (pc' := 114) (lv' := [(7, .ref (11 + h)), (0, .ref 0), (1, .int (nI h)), (2, .int (nI dl)), (3, .int (nI bt)), (4, .int (nI rt)), (5, .int (nI fl)), (6, .int (nI wt))]) (st' := [.int 1]) (S' := stt (h_close (up2 (up2 (up2 (up2 (up2 σ (11 + h) 0 (nI dl)) (11 + h) 1 (nI bt)) (11 + h) 2 (nI rt)) (11 + h) 3 (nI fl)) (11 + h) 4 (nI wt)) (11 + h)) τ) (kc' := 0) (ks' := 0) rfl ⟨trivial, trivial⟩ ?_
              refine R_iret ck_56_114 rfl rfl ?_
              exact hs h dl bt rt fl wt (by omega) (by omega) (by omega) (by omega) (by omega) (by omega) (by omega) (by omega) (by omega) (by omega) rfl rfl rfl rfl rfl rfl
            · show RU_56 (d + 1) (0, 0) Post 59 ([(0, .ref 0), (1, .int (nI h)), (2, .int (nI dl)), (3, .int (nI bt)), (4, .int (nI rt)), (5, .int (nI fl)), (6, .int x6)]) ([.int 0]) (stt σ τ) 0 0
              refine R_if ck_56_59 (fun c => absurd c (show ¬ ¬ (0 : Int32) = 0 from by decide)) (fun _ => ?_)
              refine R_seg sg_56_62 sk_56_62 (pc' := 63) (lv' := [(0, .ref 0), (1, .int (nI h)), (2, .int (nI dl)), (3, .int (nI bt)), (4, .int (nI rt)), (5, .int (nI fl)), (6, .int x6)]) (st' := [.int 0]) (S' := stt σ τ) (kc' := 0) (ks' := 0) rfl ⟨trivial, trivial⟩ ?_
              refine R_iret ck_56_63 rfl rfl ?_
              exact hf (fun q => by first | exact n_h q.1 | exact n_dl q.2.1 | exact n_bt q.2.2.1 | exact n_rt q.2.2.2.1 | exact n_fl q.2.2.2.2.1 | exact n_wt q.2.2.2.2.2)
          · show RU_56 (d + 1) (0, 0) Post 48 ([(0, .ref 0), (1, .int (nI h)), (2, .int (nI dl)), (3, .int (nI bt)), (4, .int (nI rt)), (5, .int x5), (6, .int x6)]) ([.int 0]) (stt σ τ) 0 0
            refine R_if ck_56_48 (fun _ => ?_) (fun c => absurd (show (0 : Int32) = 0 from by decide) c)
            refine R_seg sg_56_62 sk_56_62 (pc' := 63) (lv' := [(0, .ref 0), (1, .int (nI h)), (2, .int (nI dl)), (3, .int (nI bt)), (4, .int (nI rt)), (5, .int x5), (6, .int x6)]) (st' := [.int 0]) (S' := stt σ τ) (kc' := 0) (ks' := 0) rfl ⟨trivial, trivial⟩ ?_
            refine R_iret ck_56_63 rfl rfl ?_
            exact hf (fun q => by first | exact n_h q.1 | exact n_dl q.2.1 | exact n_bt q.2.2.1 | exact n_rt q.2.2.2.1 | exact n_fl q.2.2.2.2.1 | exact n_wt q.2.2.2.2.2)
        · show RU_56 (d + 1) (0, 0) Post 37 ([(0, .ref 0), (1, .int (nI h)), (2, .int (nI dl)), (3, .int (nI bt)), (4, .int x4), (5, .int x5), (6, .int x6)]) ([.int 0]) (stt σ τ) 0 0
          refine R_if ck_56_37 (fun _ => ?_) (fun c => absurd (show (0 : Int32) = 0 from by decide) c)
          refine R_seg sg_56_62 sk_56_62 (pc' := 63) (lv' := [(0, .ref 0), (1, .int (nI h)), (2, .int (nI dl)), (3, .int (nI bt)), (4, .int x4), (5, .int x5), (6, .int x6)]) (st' := [.int 0]) (S' := stt σ τ) (kc' := 0) (ks' := 0) rfl ⟨trivial, trivial⟩ ?_
          refine R_iret ck_56_63 rfl rfl ?_
          exact hf (fun q => by first | exact n_h q.1 | exact n_dl q.2.1 | exact n_bt q.2.2.1 | exact n_rt q.2.2.2.1 | exact n_fl q.2.2.2.2.1 | exact n_wt q.2.2.2.2.2)
      · show RU_56 (d + 1) (0, 0) Post 26 ([(0, .ref 0), (1, .int (nI h)), (2, .int (nI dl)), (3, .int x3), (4, .int x4), (5, .int x5), (6, .int x6)]) ([.int 0]) (stt σ τ) 0 0
        refine R_if ck_56_26 (fun _ => ?_) (fun c => absurd (show (0 : Int32) = 0 from by decide) c)
        refine R_seg sg_56_62 sk_56_62 (pc' := 63) (lv' := [(0, .ref 0), (1, .int (nI h)), (2, .int (nI dl)), (3, .int x3), (4, .int x4), (5, .int x5), (6, .int x6)]) (st' := [.int 0]) (S' := stt σ τ) (kc' := 0) (ks' := 0) rfl ⟨trivial, trivial⟩ ?_
        refine R_iret ck_56_63 rfl rfl ?_
        exact hf (fun q => by first | exact n_h q.1 | exact n_dl q.2.1 | exact n_bt q.2.2.1 | exact n_rt q.2.2.2.1 | exact n_fl q.2.2.2.2.1 | exact n_wt q.2.2.2.2.2)
    · show RU_56 (d + 1) (0, 0) Post 16 ([(0, .ref 0), (1, .int (nI h)), (2, .int x2), (3, .int x3), (4, .int x4), (5, .int x5), (6, .int x6)]) ([.int 0]) (stt σ τ) 0 0
      refine R_if ck_56_16 (fun _ => ?_) (fun c => absurd (show (0 : Int32) = 0 from by decide) c)
      refine R_seg sg_56_62 sk_56_62 (pc' := 63) (lv' := [(0, .ref 0), (1, .int (nI h)), (2, .int x2), (3, .int x3), (4, .int x4), (5, .int x5), (6, .int x6)]) (st' := [.int 0]) (S' := stt σ τ) (kc' := 0) (ks' := 0) rfl ⟨trivial, trivial⟩ ?_
      refine R_iret ck_56_63 rfl rfl ?_
      exact hf (fun q => by first | exact n_h q.1 | exact n_dl q.2.1 | exact n_bt q.2.2.1 | exact n_rt q.2.2.2.1 | exact n_fl q.2.2.2.2.1 | exact n_wt q.2.2.2.2.2)
  · show RU_56 (d + 1) (0, 0) Post 6 ([(0, .ref 0), (1, .int x1), (2, .int x2), (3, .int x3), (4, .int x4), (5, .int x5), (6, .int x6)]) ([.int 0]) (stt σ τ) 0 0
    refine R_if ck_56_6 (fun _ => ?_) (fun c => absurd (show (0 : Int32) = 0 from by decide) c)
    refine R_seg sg_56_62 sk_56_62 (pc' := 63) (lv' := [(0, .ref 0), (1, .int x1), (2, .int x2), (3, .int x3), (4, .int x4), (5, .int x5), (6, .int x6)]) (st' := [.int 0]) (S' := stt σ τ) (kc' := 0) (ks' := 0) rfl ⟨trivial, trivial⟩ ?_
    refine R_iret ck_56_63 rfl rfl ?_
    exact hf (fun q => by first | exact n_h q.1 | exact n_dl q.2.1 | exact n_bt q.2.2.1 | exact n_rt q.2.2.2.1 | exact n_fl q.2.2.2.2.1 | exact n_wt q.2.2.2.2.2)
def c_down (σ : Nat → Nat → Int32) (n : Nat) (h f t : Int32) : Nat → Nat → Int32 := up2 (up2 (up2 (up2 σ 8 n h) 9 n f) 10 n t) 6 1 (nI n + 1)
set_option maxRecDepth 20000 in
theorem x_14 {d : Nat} {σ : Nat → Nat → Int32} {τ : Nat → Nat → Int64} {h f t : Int32} {n : Nat} (hn : σ 6 1 = nI n) (hn20 : n < 20) {Post : Option Value → Sto → Prop} (hp : Post (some (.int (nI n + 1))) (stt (c_down σ n h f t) τ)) : Ex (d + 1) 14 [.ref 6, .int h, .int f, .int t] (stt σ τ) 0 0 Post := by
  refine en_14 (Nat.le_of_ble_eq_true rfl) ?_
  show RU_14 d (0, 0) Post 0 ([(0, .ref 6), (1, .int h), (2, .int f), (3, .int t)]) ([]) (stt σ τ) 0 0
  refine R_seg sg_14_0 sk_14_0 (pc' := 6) (lv' := [(0, .ref 6), (1, .int h), (2, .int f), (3, .int t)]) (st' := [.int 20, .int (σ 6 1)]) (S' := stt σ τ) (kc' := 0) (ks' := 0) rfl ⟨trivial, rfl, trivial, trivial⟩ ?_
  rw [hn]
  refine R_icmp ck_14_6 (fun (c_6 : (nI n) < 20) => ?_) (fun (c_6 : ¬ (nI n) < 20) => ?_)
  · have c_6 : n < 20 := (nI_ltI (a := n) (b := 20) (by omega) (by omega)).mp c_6
    refine R_seg sg_14_11 sk_14_11 (pc' := 20) (lv' := [(0, .ref 6), (1, .int h), (2, .int f), (3, .int t)]) (st' := [.int h, .int (σ 6 1), .ref 8]) (S' := stt σ τ) (kc' := 0) (ks' := 0) rfl ⟨trivial, rfl, trivial, rfl, trivial, trivial⟩ ?_
    rw [hn]
    refine R_iast ca_14_20 (j := n) rfl rfl (by omega) ?_
    refine R_seg sg_14_21 sk_14_21 (pc' := 30) (lv' := [(0, .ref 6), (1, .int h), (2, .int f), (3, .int t)]) (st' := [.int f, .int (σ 6 1), .ref 9]) (S' := stt (up2 σ 8 n h) τ) (kc' := 0) (ks' := 0) rfl ⟨trivial, rfl, trivial, rfl, trivial, trivial⟩ ?_
    rw [hn]
    refine R_iast ca_14_30 (j := n) rfl rfl (by omega) ?_
    refine R_seg sg_14_31 sk_14_31 (pc' := 40) (lv' := [(0, .ref 6), (1, .int h), (2, .int f), (3, .int t)]) (st' := [.int t, .int (σ 6 1), .ref 10]) (S' := stt (up2 (up2 σ 8 n h) 9 n f) τ) (kc' := 0) (ks' := 0) rfl ⟨trivial, rfl, trivial, rfl, trivial, trivial⟩ ?_
    rw [hn]
    refine R_iast ca_14_40 (j := n) rfl rfl (by omega) ?_
    refine R_seg sg_14_41 sk_14_41 (pc' := 55) (lv' := [(0, .ref 6), (1, .int h), (2, .int f), (3, .int t)]) (st' := [.int ((σ 6 1) + 1)]) (S' := stt (up2 (up2 (up2 (up2 σ 8 n h) 9 n f) 10 n t) 6 1 ((σ 6 1) + 1)) τ) (kc' := 0) (ks' := 0) rfl ⟨trivial, rfl, rfl, trivial, trivial, ⟨rfl, ⟨rfl, rfl⟩⟩, trivial, rfl, trivial⟩ ?_
    rw [hn]
    refine R_iret ck_14_55 rfl rfl ?_
    exact hp
  · have c_6 : 20 ≤ n := Nat.not_lt.mp (fun q => c_6 ((nI_ltI (a := n) (b := 20) (by omega) (by omega)).mpr q))
    exact absurd hn20 (by omega)
set_option maxRecDepth 20000 in
theorem x_58 {d : Nat} {σ : Nat → Nat → Int32} {τ : Nat → Nat → Int64} {x1 x2 x3 : Int32} {n : Nat} (hn : σ 6 1 = nI n) (hn20 : n ≤ 20) {Post : Option Value → Sto → Prop} (hs : ∀ h f t : Nat, h < 5 → f ≤ t → t ≤ 100000 → n < 20 → x1 = nI h → x2 = nI f → x3 = nI t → Post (some (.int (nI n + 1))) (stt (c_down σ n (nI h) (nI f) (nI t)) τ)) (hf : ¬ (rg x1 0 4 ∧ rg x3 0 100000 ∧ (∀ t, x3 = nI t → rg x2 0 t) ∧ n < 20) → Post (some (.int (-1))) (stt σ τ)) : Ex (d + 2) 58 [.ref 0, .int x1, .int x2, .int x3] (stt σ τ) 0 0 Post := by
  refine en_58 (Nat.le_of_ble_eq_true rfl) ?_
  show RU_58 (d + 1) (0, 0) Post 0 ([(0, .ref 0), (1, .int x1), (2, .int x2), (3, .int x3)]) ([]) (stt σ τ) 0 0
  refine R_seg sg_58_0 sk_58_0 (pc' := 3) (lv' := [(0, .ref 0), (1, .int x1), (2, .int x2), (3, .int x3)]) (st' := [.int 4, .int 0, .int x1]) (S' := stt σ τ) (kc' := 0) (ks' := 0) rfl ⟨trivial, trivial, trivial, trivial⟩ ?_
  refine R_stat ck_58_3 (by decide) [.int x1, .int 0, .int 4] 0 0 (r := []) rfl rfl (Nat.le_of_ble_eq_true rfl) (Nat.le_refl _) (Nat.le_refl _) ?_
  refine xn_57 (d := d) 0 4 (by omega) (by omega) (fun h l_h u_h e_h => ?_) (fun n_h => ?_)
  · subst e_h
    show RU_58 (d + 1) (0, 0) Post 6 ([(0, .ref 0), (1, .int (nI h)), (2, .int x2), (3, .int x3)]) ([.int 1]) (stt σ τ) 0 0
    refine R_if ck_58_6 (fun c => absurd c (show ¬ (1 : Int32) = 0 from by decide)) (fun _ => ?_)
    refine R_seg sg_58_9 sk_58_9 (pc' := 13) (lv' := [(0, .ref 0), (1, .int (nI h)), (2, .int x2), (3, .int x3)]) (st' := [.int 100000, .int 0, .int x3]) (S' := stt σ τ) (kc' := 0) (ks' := 0) rfl ⟨trivial, trivial, trivial, trivial⟩ ?_
    refine R_stat ck_58_13 (by decide) [.int x3, .int 0, .int 100000] 0 0 (r := []) rfl rfl (Nat.le_of_ble_eq_true rfl) (Nat.le_refl _) (Nat.le_refl _) ?_
    refine xn_57 (d := d) 0 100000 (by omega) (by omega) (fun t l_t u_t e_t => ?_) (fun n_t => ?_)
    · subst e_t
      show RU_58 (d + 1) (0, 0) Post 16 ([(0, .ref 0), (1, .int (nI h)), (2, .int x2), (3, .int (nI t))]) ([.int 1]) (stt σ τ) 0 0
      refine R_if ck_58_16 (fun c => absurd c (show ¬ (1 : Int32) = 0 from by decide)) (fun _ => ?_)
      refine R_seg sg_58_19 sk_58_19 (pc' := 22) (lv' := [(0, .ref 0), (1, .int (nI h)), (2, .int x2), (3, .int (nI t))]) (st' := [.int (nI t), .int 0, .int x2]) (S' := stt σ τ) (kc' := 0) (ks' := 0) rfl ⟨trivial, trivial, trivial, trivial⟩ ?_
      refine R_stat ck_58_22 (by decide) [.int x2, .int 0, .int (nI t)] 0 0 (r := []) rfl rfl (Nat.le_of_ble_eq_true rfl) (Nat.le_refl _) (Nat.le_refl _) ?_
      refine xn_57 (d := d) 0 t (by omega) (by omega) (fun f l_f u_f e_f => ?_) (fun n_f => ?_)
      · subst e_f
        show RU_58 (d + 1) (0, 0) Post 25 ([(0, .ref 0), (1, .int (nI h)), (2, .int (nI f)), (3, .int (nI t))]) ([.int 1]) (stt σ τ) 0 0
        refine R_if ck_58_25 (fun c => absurd c (show ¬ (1 : Int32) = 0 from by decide)) (fun _ => ?_)
        refine R_seg sg_58_28 sk_58_28 (pc' := 37) (lv' := [(0, .ref 0), (1, .int (nI h)), (2, .int (nI f)), (3, .int (nI t))]) (st' := [.int 20, .int (σ 6 1)]) (S' := stt σ τ) (kc' := 0) (ks' := 0) rfl ⟨trivial, rfl, rfl, trivial, trivial⟩ ?_
        rw [hn]
        refine R_icmp ck_58_37 (fun (c_37 : (nI n) < 20) => ?_) (fun (c_37 : ¬ (nI n) < 20) => ?_)
        · have c_37 : n < 20 := (nI_ltI (a := n) (b := 20) (by omega) (by omega)).mp c_37
          refine R_seg sg_58_42 sk_58_42 (pc' := 49) (lv' := [(0, .ref 0), (1, .int (nI h)), (2, .int (nI f)), (3, .int (nI t))]) (st' := [.int (nI t), .int (nI f), .int (nI h), .ref 6]) (S' := stt σ τ) (kc' := 0) (ks' := 0) rfl ⟨trivial, rfl, trivial, trivial, trivial, trivial⟩ ?_
          refine R_virt ck_58_49 6 [.int (nI h), .int (nI f), .int (nI t)] 0 0 (r := []) rfl rfl rfl (Nat.le_of_ble_eq_true rfl) (Nat.le_refl _) (Nat.le_refl _) ?_
          refine x_14 (d := d) hn (by omega) ?_
          show RU_58 (d + 1) (0, 0) Post 52 ([(0, .ref 0), (1, .int (nI h)), (2, .int (nI f)), (3, .int (nI t))]) ([.int (nI n + 1)]) (stt (c_down σ n (nI h) (nI f) (nI t)) τ) 0 0
          refine R_iret ck_58_52 rfl rfl ?_
          exact hs h f t (by omega) (by omega) (by omega) (by omega) rfl rfl rfl
        · have c_37 : 20 ≤ n := Nat.not_lt.mp (fun q => c_37 ((nI_ltI (a := n) (b := 20) (by omega) (by omega)).mpr q))
          refine R_seg sg_58_40 sk_58_40 (pc' := 41) (lv' := [(0, .ref 0), (1, .int (nI h)), (2, .int (nI f)), (3, .int (nI t))]) (st' := [.int (-1)]) (S' := stt σ τ) (kc' := 0) (ks' := 0) rfl ⟨trivial, trivial⟩ ?_
          refine R_iret ck_58_41 rfl rfl ?_
          first | exact hf (fun q => n_h q.1) | exact hf (fun q => n_t q.2.1) | (refine hf (fun q => ?_); exact n_f (q.2.2.1 t rfl)) | exact hf (fun q => absurd q.2.2.2 (by omega))
      · show RU_58 (d + 1) (0, 0) Post 25 ([(0, .ref 0), (1, .int (nI h)), (2, .int x2), (3, .int (nI t))]) ([.int 0]) (stt σ τ) 0 0
        refine R_if ck_58_25 (fun _ => ?_) (fun c => absurd (show (0 : Int32) = 0 from by decide) c)
        refine R_seg sg_58_40 sk_58_40 (pc' := 41) (lv' := [(0, .ref 0), (1, .int (nI h)), (2, .int x2), (3, .int (nI t))]) (st' := [.int (-1)]) (S' := stt σ τ) (kc' := 0) (ks' := 0) rfl ⟨trivial, trivial⟩ ?_
        refine R_iret ck_58_41 rfl rfl ?_
        first | exact hf (fun q => n_h q.1) | exact hf (fun q => n_t q.2.1) | (refine hf (fun q => ?_); exact n_f (q.2.2.1 t rfl)) | exact hf (fun q => absurd q.2.2.2 (by omega))
    · show RU_58 (d + 1) (0, 0) Post 16 ([(0, .ref 0), (1, .int (nI h)), (2, .int x2), (3, .int x3)]) ([.int 0]) (stt σ τ) 0 0
      refine R_if ck_58_16 (fun _ => ?_) (fun c => absurd (show (0 : Int32) = 0 from by decide) c)
      refine R_seg sg_58_40 sk_58_40 (pc' := 41) (lv' := [(0, .ref 0), (1, .int (nI h)), (2, .int x2), (3, .int x3)]) (st' := [.int (-1)]) (S' := stt σ τ) (kc' := 0) (ks' := 0) rfl ⟨trivial, trivial⟩ ?_
      refine R_iret ck_58_41 rfl rfl ?_
      first | exact hf (fun q => n_h q.1) | exact hf (fun q => n_t q.2.1) | (refine hf (fun q => ?_); exact n_f (q.2.2.1 t rfl)) | exact hf (fun q => absurd q.2.2.2 (by omega))
  · show RU_58 (d + 1) (0, 0) Post 6 ([(0, .ref 0), (1, .int x1), (2, .int x2), (3, .int x3)]) ([.int 0]) (stt σ τ) 0 0
    refine R_if ck_58_6 (fun _ => ?_) (fun c => absurd (show (0 : Int32) = 0 from by decide) c)
    refine R_seg sg_58_40 sk_58_40 (pc' := 41) (lv' := [(0, .ref 0), (1, .int x1), (2, .int x2), (3, .int x3)]) (st' := [.int (-1)]) (S' := stt σ τ) (kc' := 0) (ks' := 0) rfl ⟨trivial, trivial⟩ ?_
    refine R_iret ck_58_41 rfl rfl ?_
    first | exact hf (fun q => n_h q.1) | exact hf (fun q => n_t q.2.1) | (refine hf (fun q => ?_); exact n_f (q.2.2.1 t rfl)) | exact hf (fun q => absurd q.2.2.2 (by omega))
def c_type (σ : Nat → Nat → Int32) (t h p l : Nat) : Nat → Nat → Int32 := fl2 (up2 (up2 (up2 σ 17 t (nI h)) 18 t (nI p)) 19 t (nI l)) 25 (t * 32) (t * 32 + 32) 0
set_option maxRecDepth 20000 in
theorem l_59 {d : Nat} {σ : Nat → Nat → Int32} {τ : Nat → Nat → Int64} {t h p l : Nat} (ht : t < 6) {Post : Option Value → Sto → Prop} (hp : Post (some (.int 1)) (stt (fl2 σ 25 (t * 32) (t * 32 + 32) 0) τ)) : ∀ (n : Nat) (i : Nat), i ≤ 32 → 32 - i < n → RU_59 d (0, 0) Post 76 [(5, .int (nI i)), (0, .ref 0), (1, .int (nI t)), (2, .int (nI h)), (3, .int (nI p)), (4, .int (nI l))] [] (stt (fl2 σ 25 (t * 32) (t * 32 + i) 0) τ) 0 0 := by
  intro n
  induction n with
  | zero => intro i h1 h2; exact absurd h2 (by omega)
  | succ n ih =>
    intro i h1 h2
    refine R_seg sg_59_76 sk_59_76 (pc' := 80) (lv' := [(5, .int (nI i)), (0, .ref 0), (1, .int (nI t)), (2, .int (nI h)), (3, .int (nI p)), (4, .int (nI l))]) (st' := [.int 32, .int (nI i)]) (S' := stt (fl2 σ 25 (t * 32) (t * 32 + i) 0) τ) (kc' := 0) (ks' := 0) rfl ⟨trivial, trivial, trivial⟩ ?_
    refine R_icmp ck_59_80 (fun (c_80 : 32 ≤ (nI i)) => ?_) (fun (c_80 : ¬ 32 ≤ (nI i)) => ?_)
    · have c_80 : 32 ≤ i := (nI_leI (a := 32) (b := i) (by omega) (by omega)).mp c_80
      refine R_seg sg_59_105 sk_59_105 (pc' := 106) (lv' := [(5, .int (nI i)), (0, .ref 0), (1, .int (nI t)), (2, .int (nI h)), (3, .int (nI p)), (4, .int (nI l))]) (st' := [.int 1]) (S' := stt (fl2 σ 25 (t * 32) (t * 32 + i) 0) τ) (kc' := 0) (ks' := 0) rfl ⟨trivial, trivial⟩ ?_
      refine R_iret ck_59_106 rfl rfl ?_
      have e : i = 32 := by omega
      subst e
      exact hp
    · have c_80 : i < 32 := Nat.not_le.mp (fun q => c_80 ((nI_leI (a := 32) (b := i) (by omega) (by omega)).mpr q))
      refine R_seg sg_59_83 sk_59_83 (pc' := 98) (lv' := [(5, .int (nI i)), (0, .ref 0), (1, .int (nI t)), (2, .int (nI h)), (3, .int (nI p)), (4, .int (nI l))]) (st' := [.int 0, .int (((nI t) * 32) + (nI i)), .ref 25]) (S' := stt (fl2 σ 25 (t * 32) (t * 32 + i) 0) τ) (kc' := 0) (ks' := 0) rfl ⟨trivial, rfl, rfl, trivial, trivial, trivial, trivial, trivial, trivial, trivial⟩ ?_
      refine R_iast ca_59_98 (j := (t * 32) + i) rfl (by simp only [nl_0, nl_1, nl_2, nl_3, nl_4, nl_5, nl_6, nl_8, nl_20, nl_31, nl_32, pk_mul, nI_add]) (by omega) ?_
      refine R_seg sg_59_99 sk_59_99 (pc' := 102) (lv' := [(5, .int ((nI i) + 1)), (0, .ref 0), (1, .int (nI t)), (2, .int (nI h)), (3, .int (nI p)), (4, .int (nI l))]) (st' := []) (S' := stt (up2 (fl2 σ 25 (t * 32) (t * 32 + i) 0) 25 ((t * 32) + i) 0) τ) (kc' := 0) (ks' := 0) rfl ⟨(by decide), trivial⟩ ?_
      refine R_goto ck_59_102 ?_
      rw [nI_1, fl2_s _ _ _ _ _ (by omega)]
      exact ih (i + 1) (by omega) (by omega)
set_option maxRecDepth 20000 in
theorem x_59 {d : Nat} {σ : Nat → Nat → Int32} {τ : Nat → Nat → Int64} {x1 x2 x3 x4 : Int32} {Post : Option Value → Sto → Prop} (hs : ∀ t h p l : Nat, t < 6 → h < 5 → 1 ≤ p → p ≤ 9 → l ≤ 999 → x1 = nI t → x2 = nI h → x3 = nI p → x4 = nI l → Post (some (.int 1)) (stt (c_type σ t h p l) τ)) (hf : ¬ (rg x1 0 5 ∧ rg x2 0 4 ∧ rg x3 1 9 ∧ rg x4 0 999) → Post (some (.int 0)) (stt σ τ)) : Ex (d + 2) 59 [.ref 0, .int x1, .int x2, .int x3, .int x4] (stt σ τ) 0 0 Post := by
  refine en_59 (Nat.le_of_ble_eq_true rfl) ?_
  show RU_59 (d + 1) (0, 0) Post 0 ([(0, .ref 0), (1, .int x1), (2, .int x2), (3, .int x3), (4, .int x4)]) ([]) (stt σ τ) 0 0
  refine R_seg sg_59_0 sk_59_0 (pc' := 3) (lv' := [(0, .ref 0), (1, .int x1), (2, .int x2), (3, .int x3), (4, .int x4)]) (st' := [.int 5, .int 0, .int x1]) (S' := stt σ τ) (kc' := 0) (ks' := 0) rfl ⟨trivial, trivial, trivial, trivial⟩ ?_
  refine R_stat ck_59_3 (by decide) [.int x1, .int 0, .int 5] 0 0 (r := []) rfl rfl (Nat.le_of_ble_eq_true rfl) (Nat.le_refl _) (Nat.le_refl _) ?_
  refine xn_57 (d := d) 0 5 (by omega) (by omega) (fun t l_t u_t e_t => ?_) (fun n_t => ?_)
  · subst e_t
    show RU_59 (d + 1) (0, 0) Post 6 ([(0, .ref 0), (1, .int (nI t)), (2, .int x2), (3, .int x3), (4, .int x4)]) ([.int 1]) (stt σ τ) 0 0
    refine R_if ck_59_6 (fun c => absurd c (show ¬ (1 : Int32) = 0 from by decide)) (fun _ => ?_)
    refine R_seg sg_59_9 sk_59_9 (pc' := 12) (lv' := [(0, .ref 0), (1, .int (nI t)), (2, .int x2), (3, .int x3), (4, .int x4)]) (st' := [.int 4, .int 0, .int x2]) (S' := stt σ τ) (kc' := 0) (ks' := 0) rfl ⟨trivial, trivial, trivial, trivial⟩ ?_
    refine R_stat ck_59_12 (by decide) [.int x2, .int 0, .int 4] 0 0 (r := []) rfl rfl (Nat.le_of_ble_eq_true rfl) (Nat.le_refl _) (Nat.le_refl _) ?_
    refine xn_57 (d := d) 0 4 (by omega) (by omega) (fun h l_h u_h e_h => ?_) (fun n_h => ?_)
    · subst e_h
      show RU_59 (d + 1) (0, 0) Post 15 ([(0, .ref 0), (1, .int (nI t)), (2, .int (nI h)), (3, .int x3), (4, .int x4)]) ([.int 1]) (stt σ τ) 0 0
      refine R_if ck_59_15 (fun c => absurd c (show ¬ (1 : Int32) = 0 from by decide)) (fun _ => ?_)
      refine R_seg sg_59_18 sk_59_18 (pc' := 22) (lv' := [(0, .ref 0), (1, .int (nI t)), (2, .int (nI h)), (3, .int x3), (4, .int x4)]) (st' := [.int 9, .int 1, .int x3]) (S' := stt σ τ) (kc' := 0) (ks' := 0) rfl ⟨trivial, trivial, trivial, trivial⟩ ?_
      refine R_stat ck_59_22 (by decide) [.int x3, .int 1, .int 9] 0 0 (r := []) rfl rfl (Nat.le_of_ble_eq_true rfl) (Nat.le_refl _) (Nat.le_refl _) ?_
      refine xn_57 (d := d) 1 9 (by omega) (by omega) (fun p l_p u_p e_p => ?_) (fun n_p => ?_)
      · subst e_p
        show RU_59 (d + 1) (0, 0) Post 25 ([(0, .ref 0), (1, .int (nI t)), (2, .int (nI h)), (3, .int (nI p)), (4, .int x4)]) ([.int 1]) (stt σ τ) 0 0
        refine R_if ck_59_25 (fun c => absurd c (show ¬ (1 : Int32) = 0 from by decide)) (fun _ => ?_)
        refine R_seg sg_59_28 sk_59_28 (pc' := 34) (lv' := [(0, .ref 0), (1, .int (nI t)), (2, .int (nI h)), (3, .int (nI p)), (4, .int x4)]) (st' := [.int 999, .int 0, .int x4]) (S' := stt σ τ) (kc' := 0) (ks' := 0) rfl ⟨trivial, trivial, trivial, trivial⟩ ?_
        refine R_stat ck_59_34 (by decide) [.int x4, .int 0, .int 999] 0 0 (r := []) rfl rfl (Nat.le_of_ble_eq_true rfl) (Nat.le_refl _) (Nat.le_refl _) ?_
        refine xn_57 (d := d) 0 999 (by omega) (by omega) (fun l l_l u_l e_l => ?_) (fun n_l => ?_)
        · subst e_l
          show RU_59 (d + 1) (0, 0) Post 37 ([(0, .ref 0), (1, .int (nI t)), (2, .int (nI h)), (3, .int (nI p)), (4, .int (nI l))]) ([.int 1]) (stt σ τ) 0 0
          refine R_if ck_59_37 (fun _ => ?_) (fun c => absurd (show ¬ (1 : Int32) = 0 from by decide) c)
          refine R_seg sg_59_42 sk_59_42 (pc' := 51) (lv' := [(0, .ref 0), (1, .int (nI t)), (2, .int (nI h)), (3, .int (nI p)), (4, .int (nI l))]) (st' := [.int (nI h), .int (nI t), .ref 17]) (S' := stt σ τ) (kc' := 0) (ks' := 0) rfl ⟨trivial, rfl, rfl, trivial, trivial, trivial⟩ ?_
          refine R_iast ca_59_51 (j := t) rfl rfl (by omega) ?_
          refine R_seg sg_59_52 sk_59_52 (pc' := 61) (lv' := [(0, .ref 0), (1, .int (nI t)), (2, .int (nI h)), (3, .int (nI p)), (4, .int (nI l))]) (st' := [.int (nI p), .int (nI t), .ref 18]) (S' := stt (up2 σ 17 t (nI h)) τ) (kc' := 0) (ks' := 0) rfl ⟨trivial, rfl, rfl, trivial, trivial, trivial⟩ ?_
          refine R_iast ca_59_61 (j := t) rfl rfl (by omega) ?_
          refine R_seg sg_59_62 sk_59_62 (pc' := 72) (lv' := [(0, .ref 0), (1, .int (nI t)), (2, .int (nI h)), (3, .int (nI p)), (4, .int (nI l))]) (st' := [.int (nI l), .int (nI t), .ref 19]) (S' := stt (up2 (up2 σ 17 t (nI h)) 18 t (nI p)) τ) (kc' := 0) (ks' := 0) rfl ⟨trivial, rfl, rfl, trivial, trivial, trivial⟩ ?_
          refine R_iast ca_59_72 (j := t) rfl rfl (by omega) ?_
          refine R_seg sg_59_73 sk_59_73 (pc' := 76) (lv' := [(5, .int 0), (0, .ref 0), (1, .int (nI t)), (2, .int (nI h)), (3, .int (nI p)), (4, .int (nI l))]) (st' := []) (S' := stt (up2 (up2 (up2 σ 17 t (nI h)) 18 t (nI p)) 19 t (nI l)) τ) (kc' := 0) (ks' := 0) rfl ⟨trivial, (by decide), trivial⟩ ?_
          have key := @l_59 (d + 1) (up2 (up2 (up2 σ 17 t (nI h)) 18 t (nI p)) 19 t (nI l)) τ t h p l (by omega) Post (hs t h p l (by omega) (by omega) (by omega) (by omega) (by omega) rfl rfl rfl rfl) 33 0 (by omega) (by omega)
          have e0 : fl2 (up2 (up2 (up2 σ 17 t (nI h)) 18 t (nI p)) 19 t (nI l)) 25 (t * 32) (t * 32 + 0) 0 = (up2 (up2 (up2 σ 17 t (nI h)) 18 t (nI p)) 19 t (nI l)) := fl2_0 _ _ _ _
          rw [e0] at key
          exact key
        · show RU_59 (d + 1) (0, 0) Post 37 ([(0, .ref 0), (1, .int (nI t)), (2, .int (nI h)), (3, .int (nI p)), (4, .int x4)]) ([.int 0]) (stt σ τ) 0 0
          refine R_if ck_59_37 (fun c => absurd c (show ¬ ¬ (0 : Int32) = 0 from by decide)) (fun _ => ?_)
          refine R_seg sg_59_40 sk_59_40 (pc' := 41) (lv' := [(0, .ref 0), (1, .int (nI t)), (2, .int (nI h)), (3, .int (nI p)), (4, .int x4)]) (st' := [.int 0]) (S' := stt σ τ) (kc' := 0) (ks' := 0) rfl ⟨trivial, trivial⟩ ?_
          refine R_iret ck_59_41 rfl rfl ?_
          exact hf (fun q => by first | exact n_t q.1 | exact n_h q.2.1 | exact n_p q.2.2.1 | exact n_l q.2.2.2)
      · show RU_59 (d + 1) (0, 0) Post 25 ([(0, .ref 0), (1, .int (nI t)), (2, .int (nI h)), (3, .int x3), (4, .int x4)]) ([.int 0]) (stt σ τ) 0 0
        refine R_if ck_59_25 (fun _ => ?_) (fun c => absurd (show (0 : Int32) = 0 from by decide) c)
        refine R_seg sg_59_40 sk_59_40 (pc' := 41) (lv' := [(0, .ref 0), (1, .int (nI t)), (2, .int (nI h)), (3, .int x3), (4, .int x4)]) (st' := [.int 0]) (S' := stt σ τ) (kc' := 0) (ks' := 0) rfl ⟨trivial, trivial⟩ ?_
        refine R_iret ck_59_41 rfl rfl ?_
        exact hf (fun q => by first | exact n_t q.1 | exact n_h q.2.1 | exact n_p q.2.2.1 | exact n_l q.2.2.2)
    · show RU_59 (d + 1) (0, 0) Post 15 ([(0, .ref 0), (1, .int (nI t)), (2, .int x2), (3, .int x3), (4, .int x4)]) ([.int 0]) (stt σ τ) 0 0
      refine R_if ck_59_15 (fun _ => ?_) (fun c => absurd (show (0 : Int32) = 0 from by decide) c)
      refine R_seg sg_59_40 sk_59_40 (pc' := 41) (lv' := [(0, .ref 0), (1, .int (nI t)), (2, .int x2), (3, .int x3), (4, .int x4)]) (st' := [.int 0]) (S' := stt σ τ) (kc' := 0) (ks' := 0) rfl ⟨trivial, trivial⟩ ?_
      refine R_iret ck_59_41 rfl rfl ?_
      exact hf (fun q => by first | exact n_t q.1 | exact n_h q.2.1 | exact n_p q.2.2.1 | exact n_l q.2.2.2)
  · show RU_59 (d + 1) (0, 0) Post 6 ([(0, .ref 0), (1, .int x1), (2, .int x2), (3, .int x3), (4, .int x4)]) ([.int 0]) (stt σ τ) 0 0
    refine R_if ck_59_6 (fun _ => ?_) (fun c => absurd (show (0 : Int32) = 0 from by decide) c)
    refine R_seg sg_59_40 sk_59_40 (pc' := 41) (lv' := [(0, .ref 0), (1, .int x1), (2, .int x2), (3, .int x3), (4, .int x4)]) (st' := [.int 0]) (S' := stt σ τ) (kc' := 0) (ks' := 0) rfl ⟨trivial, trivial⟩ ?_
    refine R_iret ck_59_41 rfl rfl ?_
    exact hf (fun q => by first | exact n_t q.1 | exact n_h q.2.1 | exact n_p q.2.2.1 | exact n_l q.2.2.2)
def c_field (σ : Nat → Nat → Int32) (t f k o m : Nat) (b : Int32) : Nat → Nat → Int32 := up2 (up2 (up2 (up2 σ 20 (t * 4 + f) (nI k)) 21 (t * 4 + f) (nI o)) 22 (t * 4 + f) (nI m)) 23 (t * 4 + f) b
set_option maxRecDepth 20000 in
theorem x_60 {d : Nat} {σ : Nat → Nat → Int32} {τ : Nat → Nat → Int64} {x1 x2 x3 x4 x5 x6 : Int32} (hb : x6 = 0 ∨ x6 = 1) {Post : Option Value → Sto → Prop} (hs : ∀ t f k o m : Nat, t < 6 → f < 4 → k < 3 → o < 6 → 1 ≤ m → m ≤ 5 → x1 = nI t → x2 = nI f → x3 = nI k → x4 = nI o → x5 = nI m → Post (some (.int 1)) (stt (c_field σ t f k o m x6) τ)) (hf : ¬ (rg x1 0 5 ∧ rg x2 0 3 ∧ rg x3 0 2 ∧ rg x4 0 5 ∧ rg x5 1 5) → Post (some (.int 0)) (stt σ τ)) : Ex (d + 2) 60 [.ref 0, .int x1, .int x2, .int x3, .int x4, .int x5, .int x6] (stt σ τ) 0 0 Post := by
  refine en_60 (Nat.le_of_ble_eq_true rfl) ?_
  show RU_60 (d + 1) (0, 0) Post 0 ([(0, .ref 0), (1, .int x1), (2, .int x2), (3, .int x3), (4, .int x4), (5, .int x5), (6, .int x6)]) ([]) (stt σ τ) 0 0
  refine R_seg sg_60_0 sk_60_0 (pc' := 3) (lv' := [(0, .ref 0), (1, .int x1), (2, .int x2), (3, .int x3), (4, .int x4), (5, .int x5), (6, .int x6)]) (st' := [.int 5, .int 0, .int x1]) (S' := stt σ τ) (kc' := 0) (ks' := 0) rfl ⟨trivial, trivial, trivial, trivial⟩ ?_
  refine R_stat ck_60_3 (by decide) [.int x1, .int 0, .int 5] 0 0 (r := []) rfl rfl (Nat.le_of_ble_eq_true rfl) (Nat.le_refl _) (Nat.le_refl _) ?_
  refine xn_57 (d := d) 0 5 (by omega) (by omega) (fun t l_t u_t e_t => ?_) (fun n_t => ?_)
  · subst e_t
    show RU_60 (d + 1) (0, 0) Post 6 ([(0, .ref 0), (1, .int (nI t)), (2, .int x2), (3, .int x3), (4, .int x4), (5, .int x5), (6, .int x6)]) ([.int 1]) (stt σ τ) 0 0
    refine R_if ck_60_6 (fun c => absurd c (show ¬ (1 : Int32) = 0 from by decide)) (fun _ => ?_)
    refine R_seg sg_60_9 sk_60_9 (pc' := 12) (lv' := [(0, .ref 0), (1, .int (nI t)), (2, .int x2), (3, .int x3), (4, .int x4), (5, .int x5), (6, .int x6)]) (st' := [.int 3, .int 0, .int x2]) (S' := stt σ τ) (kc' := 0) (ks' := 0) rfl ⟨trivial, trivial, trivial, trivial⟩ ?_
    refine R_stat ck_60_12 (by decide) [.int x2, .int 0, .int 3] 0 0 (r := []) rfl rfl (Nat.le_of_ble_eq_true rfl) (Nat.le_refl _) (Nat.le_refl _) ?_
    refine xn_57 (d := d) 0 3 (by omega) (by omega) (fun f l_f u_f e_f => ?_) (fun n_f => ?_)
    · subst e_f
      show RU_60 (d + 1) (0, 0) Post 15 ([(0, .ref 0), (1, .int (nI t)), (2, .int (nI f)), (3, .int x3), (4, .int x4), (5, .int x5), (6, .int x6)]) ([.int 1]) (stt σ τ) 0 0
      refine R_if ck_60_15 (fun c => absurd c (show ¬ (1 : Int32) = 0 from by decide)) (fun _ => ?_)
      refine R_seg sg_60_18 sk_60_18 (pc' := 21) (lv' := [(0, .ref 0), (1, .int (nI t)), (2, .int (nI f)), (3, .int x3), (4, .int x4), (5, .int x5), (6, .int x6)]) (st' := [.int 2, .int 0, .int x3]) (S' := stt σ τ) (kc' := 0) (ks' := 0) rfl ⟨trivial, trivial, trivial, trivial⟩ ?_
      refine R_stat ck_60_21 (by decide) [.int x3, .int 0, .int 2] 0 0 (r := []) rfl rfl (Nat.le_of_ble_eq_true rfl) (Nat.le_refl _) (Nat.le_refl _) ?_
      refine xn_57 (d := d) 0 2 (by omega) (by omega) (fun k l_k u_k e_k => ?_) (fun n_k => ?_)
      · subst e_k
        show RU_60 (d + 1) (0, 0) Post 24 ([(0, .ref 0), (1, .int (nI t)), (2, .int (nI f)), (3, .int (nI k)), (4, .int x4), (5, .int x5), (6, .int x6)]) ([.int 1]) (stt σ τ) 0 0
        refine R_if ck_60_24 (fun c => absurd c (show ¬ (1 : Int32) = 0 from by decide)) (fun _ => ?_)
        refine R_seg sg_60_27 sk_60_27 (pc' := 31) (lv' := [(0, .ref 0), (1, .int (nI t)), (2, .int (nI f)), (3, .int (nI k)), (4, .int x4), (5, .int x5), (6, .int x6)]) (st' := [.int 5, .int 0, .int x4]) (S' := stt σ τ) (kc' := 0) (ks' := 0) rfl ⟨trivial, trivial, trivial, trivial⟩ ?_
        refine R_stat ck_60_31 (by decide) [.int x4, .int 0, .int 5] 0 0 (r := []) rfl rfl (Nat.le_of_ble_eq_true rfl) (Nat.le_refl _) (Nat.le_refl _) ?_
        refine xn_57 (d := d) 0 5 (by omega) (by omega) (fun o l_o u_o e_o => ?_) (fun n_o => ?_)
        · subst e_o
          show RU_60 (d + 1) (0, 0) Post 34 ([(0, .ref 0), (1, .int (nI t)), (2, .int (nI f)), (3, .int (nI k)), (4, .int (nI o)), (5, .int x5), (6, .int x6)]) ([.int 1]) (stt σ τ) 0 0
          refine R_if ck_60_34 (fun c => absurd c (show ¬ (1 : Int32) = 0 from by decide)) (fun _ => ?_)
          refine R_seg sg_60_37 sk_60_37 (pc' := 41) (lv' := [(0, .ref 0), (1, .int (nI t)), (2, .int (nI f)), (3, .int (nI k)), (4, .int (nI o)), (5, .int x5), (6, .int x6)]) (st' := [.int 5, .int 1, .int x5]) (S' := stt σ τ) (kc' := 0) (ks' := 0) rfl ⟨trivial, trivial, trivial, trivial⟩ ?_
          refine R_stat ck_60_41 (by decide) [.int x5, .int 1, .int 5] 0 0 (r := []) rfl rfl (Nat.le_of_ble_eq_true rfl) (Nat.le_refl _) (Nat.le_refl _) ?_
          refine xn_57 (d := d) 1 5 (by omega) (by omega) (fun m l_m u_m e_m => ?_) (fun n_m => ?_)
          · subst e_m
            show RU_60 (d + 1) (0, 0) Post 44 ([(0, .ref 0), (1, .int (nI t)), (2, .int (nI f)), (3, .int (nI k)), (4, .int (nI o)), (5, .int (nI m)), (6, .int x6)]) ([.int 1]) (stt σ τ) 0 0
            refine R_if ck_60_44 (fun _ => ?_) (fun c => absurd (show ¬ (1 : Int32) = 0 from by decide) c)
            refine R_seg sg_60_49 sk_60_49 (pc' := 66) (lv' := [(7, .int (((nI t) * 4) + (nI f))), (0, .ref 0), (1, .int (nI t)), (2, .int (nI f)), (3, .int (nI k)), (4, .int (nI o)), (5, .int (nI m)), (6, .int x6)]) (st' := [.int (nI k), .int (((nI t) * 4) + (nI f)), .ref 20]) (S' := stt σ τ) (kc' := 0) (ks' := 0) rfl ⟨trivial, trivial, trivial, trivial, trivial, (by decide), trivial, rfl, rfl, trivial, trivial, trivial⟩ ?_
            refine R_iast ca_60_66 (j := (t * 4) + f) rfl (by simp only [nl_0, nl_1, nl_2, nl_3, nl_4, nl_5, nl_6, nl_8, nl_20, nl_31, nl_32, pk_mul, nI_add]) (by omega) ?_
            refine R_seg sg_60_67 sk_60_67 (pc' := 78) (lv' := [(7, .int (((nI t) * 4) + (nI f))), (0, .ref 0), (1, .int (nI t)), (2, .int (nI f)), (3, .int (nI k)), (4, .int (nI o)), (5, .int (nI m)), (6, .int x6)]) (st' := [.int (nI o), .int (((nI t) * 4) + (nI f)), .ref 21]) (S' := stt (up2 σ 20 ((t * 4) + f) (nI k)) τ) (kc' := 0) (ks' := 0) rfl ⟨trivial, rfl, rfl, trivial, trivial, trivial⟩ ?_
            refine R_iast ca_60_78 (j := (t * 4) + f) rfl (by simp only [nl_0, nl_1, nl_2, nl_3, nl_4, nl_5, nl_6, nl_8, nl_20, nl_31, nl_32, pk_mul, nI_add]) (by omega) ?_
            refine R_seg sg_60_79 sk_60_79 (pc' := 90) (lv' := [(7, .int (((nI t) * 4) + (nI f))), (0, .ref 0), (1, .int (nI t)), (2, .int (nI f)), (3, .int (nI k)), (4, .int (nI o)), (5, .int (nI m)), (6, .int x6)]) (st' := [.int (nI m), .int (((nI t) * 4) + (nI f)), .ref 22]) (S' := stt (up2 (up2 σ 20 ((t * 4) + f) (nI k)) 21 ((t * 4) + f) (nI o)) τ) (kc' := 0) (ks' := 0) rfl ⟨trivial, rfl, rfl, trivial, trivial, trivial⟩ ?_
            refine R_iast ca_60_90 (j := (t * 4) + f) rfl (by simp only [nl_0, nl_1, nl_2, nl_3, nl_4, nl_5, nl_6, nl_8, nl_20, nl_31, nl_32, pk_mul, nI_add]) (by omega) ?_
            refine R_seg sg_60_91 sk_60_91 (pc' := 102) (lv' := [(7, .int (((nI t) * 4) + (nI f))), (0, .ref 0), (1, .int (nI t)), (2, .int (nI f)), (3, .int (nI k)), (4, .int (nI o)), (5, .int (nI m)), (6, .int x6)]) (st' := [.int x6, .int (((nI t) * 4) + (nI f)), .ref 23]) (S' := stt (up2 (up2 (up2 σ 20 ((t * 4) + f) (nI k)) 21 ((t * 4) + f) (nI o)) 22 ((t * 4) + f) (nI m)) τ) (kc' := 0) (ks' := 0) rfl ⟨trivial, rfl, rfl, trivial, trivial, trivial⟩ ?_
            refine R_zast ca_60_102 (j := (t * 4) + f) rfl (by simp only [nl_0, nl_1, nl_2, nl_3, nl_4, nl_5, nl_6, nl_8, nl_20, nl_31, nl_32, pk_mul, nI_add]) (by omega) (vz hb) ?_
            refine R_seg sg_60_103 sk_60_103 (pc' := 104) (lv' := [(7, .int (((nI t) * 4) + (nI f))), (0, .ref 0), (1, .int (nI t)), (2, .int (nI f)), (3, .int (nI k)), (4, .int (nI o)), (5, .int (nI m)), (6, .int x6)]) (st' := [.int 1]) (S' := stt (up2 (up2 (up2 (up2 σ 20 ((t * 4) + f) (nI k)) 21 ((t * 4) + f) (nI o)) 22 ((t * 4) + f) (nI m)) 23 ((t * 4) + f) x6) τ) (kc' := 0) (ks' := 0) rfl ⟨trivial, trivial⟩ ?_
            refine R_iret ck_60_104 rfl rfl ?_
            exact hs t f k o m (by omega) (by omega) (by omega) (by omega) (by omega) (by omega) rfl rfl rfl rfl rfl
          · show RU_60 (d + 1) (0, 0) Post 44 ([(0, .ref 0), (1, .int (nI t)), (2, .int (nI f)), (3, .int (nI k)), (4, .int (nI o)), (5, .int x5), (6, .int x6)]) ([.int 0]) (stt σ τ) 0 0
            refine R_if ck_60_44 (fun c => absurd c (show ¬ ¬ (0 : Int32) = 0 from by decide)) (fun _ => ?_)
            refine R_seg sg_60_47 sk_60_47 (pc' := 48) (lv' := [(0, .ref 0), (1, .int (nI t)), (2, .int (nI f)), (3, .int (nI k)), (4, .int (nI o)), (5, .int x5), (6, .int x6)]) (st' := [.int 0]) (S' := stt σ τ) (kc' := 0) (ks' := 0) rfl ⟨trivial, trivial⟩ ?_
            refine R_iret ck_60_48 rfl rfl ?_
            exact hf (fun q => by first | exact n_t q.1 | exact n_f q.2.1 | exact n_k q.2.2.1 | exact n_o q.2.2.2.1 | exact n_m q.2.2.2.2)
        · show RU_60 (d + 1) (0, 0) Post 34 ([(0, .ref 0), (1, .int (nI t)), (2, .int (nI f)), (3, .int (nI k)), (4, .int x4), (5, .int x5), (6, .int x6)]) ([.int 0]) (stt σ τ) 0 0
          refine R_if ck_60_34 (fun _ => ?_) (fun c => absurd (show (0 : Int32) = 0 from by decide) c)
          refine R_seg sg_60_47 sk_60_47 (pc' := 48) (lv' := [(0, .ref 0), (1, .int (nI t)), (2, .int (nI f)), (3, .int (nI k)), (4, .int x4), (5, .int x5), (6, .int x6)]) (st' := [.int 0]) (S' := stt σ τ) (kc' := 0) (ks' := 0) rfl ⟨trivial, trivial⟩ ?_
          refine R_iret ck_60_48 rfl rfl ?_
          exact hf (fun q => by first | exact n_t q.1 | exact n_f q.2.1 | exact n_k q.2.2.1 | exact n_o q.2.2.2.1 | exact n_m q.2.2.2.2)
      · show RU_60 (d + 1) (0, 0) Post 24 ([(0, .ref 0), (1, .int (nI t)), (2, .int (nI f)), (3, .int x3), (4, .int x4), (5, .int x5), (6, .int x6)]) ([.int 0]) (stt σ τ) 0 0
        refine R_if ck_60_24 (fun _ => ?_) (fun c => absurd (show (0 : Int32) = 0 from by decide) c)
        refine R_seg sg_60_47 sk_60_47 (pc' := 48) (lv' := [(0, .ref 0), (1, .int (nI t)), (2, .int (nI f)), (3, .int x3), (4, .int x4), (5, .int x5), (6, .int x6)]) (st' := [.int 0]) (S' := stt σ τ) (kc' := 0) (ks' := 0) rfl ⟨trivial, trivial⟩ ?_
        refine R_iret ck_60_48 rfl rfl ?_
        exact hf (fun q => by first | exact n_t q.1 | exact n_f q.2.1 | exact n_k q.2.2.1 | exact n_o q.2.2.2.1 | exact n_m q.2.2.2.2)
    · show RU_60 (d + 1) (0, 0) Post 15 ([(0, .ref 0), (1, .int (nI t)), (2, .int x2), (3, .int x3), (4, .int x4), (5, .int x5), (6, .int x6)]) ([.int 0]) (stt σ τ) 0 0
      refine R_if ck_60_15 (fun _ => ?_) (fun c => absurd (show (0 : Int32) = 0 from by decide) c)
      refine R_seg sg_60_47 sk_60_47 (pc' := 48) (lv' := [(0, .ref 0), (1, .int (nI t)), (2, .int x2), (3, .int x3), (4, .int x4), (5, .int x5), (6, .int x6)]) (st' := [.int 0]) (S' := stt σ τ) (kc' := 0) (ks' := 0) rfl ⟨trivial, trivial⟩ ?_
      refine R_iret ck_60_48 rfl rfl ?_
      exact hf (fun q => by first | exact n_t q.1 | exact n_f q.2.1 | exact n_k q.2.2.1 | exact n_o q.2.2.2.1 | exact n_m q.2.2.2.2)
  · show RU_60 (d + 1) (0, 0) Post 6 ([(0, .ref 0), (1, .int x1), (2, .int x2), (3, .int x3), (4, .int x4), (5, .int x5), (6, .int x6)]) ([.int 0]) (stt σ τ) 0 0
    refine R_if ck_60_6 (fun _ => ?_) (fun c => absurd (show (0 : Int32) = 0 from by decide) c)
    refine R_seg sg_60_47 sk_60_47 (pc' := 48) (lv' := [(0, .ref 0), (1, .int x1), (2, .int x2), (3, .int x3), (4, .int x4), (5, .int x5), (6, .int x6)]) (st' := [.int 0]) (S' := stt σ τ) (kc' := 0) (ks' := 0) rfl ⟨trivial, trivial⟩ ?_
    refine R_iret ck_60_48 rfl rfl ?_
    exact hf (fun q => by first | exact n_t q.1 | exact n_f q.2.1 | exact n_k q.2.2.1 | exact n_o q.2.2.2.1 | exact n_m q.2.2.2.2)
set_option maxRecDepth 20000 in
theorem x_64 {d : Nat} {S : Sto} {x y z : Int32} {Post : Option Value → Sto → Prop} (h1 : ∀ t k f : Nat, t < 6 → k < 32 → f < 4 → x = nI t → y = nI k → z = nI f → Post (some (.int 1)) S) (h0 : ¬ (rg x 0 5 ∧ rg y 0 31 ∧ rg z 0 3) → Post (some (.int 0)) S) : Ex (d + 3) 64 [.int x, .int y, .int z] S 0 0 Post := by
  refine en_64 (Nat.le_of_ble_eq_true rfl) ?_
  show RU_64 (d + 2) (0, 0) Post 0 ([(0, .int x), (1, .int y), (2, .int z)]) ([]) S 0 0
  refine R_seg sg_64_0 sk_64_0 (pc' := 2) (lv' := [(0, .int x), (1, .int y), (2, .int z)]) (st' := [.int y, .int x]) (S' := S) (kc' := 0) (ks' := 0) rfl ⟨trivial, trivial, trivial⟩ ?_
  refine R_stat ck_64_2 (by decide) [.int x, .int y] 0 0 (r := []) rfl rfl (Nat.le_of_ble_eq_true rfl) (Nat.le_refl _) (Nat.le_refl _) ?_
  refine x_62 (d := d) (fun t k b_t b_k e_t e_k => ?_) (fun n_tk => ?_)
  · subst e_t; subst e_k
    show RU_64 (d + 2) (0, 0) Post 5 ([(0, .int (nI t)), (1, .int (nI k)), (2, .int z)]) ([.int 1]) S 0 0
    refine R_if ck_64_5 (fun c => absurd c (show ¬ (1 : Int32) = 0 from by decide)) (fun _ => ?_)
    refine R_seg sg_64_8 sk_64_8 (pc' := 11) (lv' := [(0, .int (nI t)), (1, .int (nI k)), (2, .int z)]) (st' := [.int 3, .int 0, .int z]) (S' := S) (kc' := 0) (ks' := 0) rfl ⟨trivial, trivial, trivial, trivial⟩ ?_
    refine R_stat ck_64_11 (by decide) [.int z, .int 0, .int 3] 0 0 (r := []) rfl rfl (Nat.le_of_ble_eq_true rfl) (Nat.le_refl _) (Nat.le_refl _) ?_
    refine xn_57 (d := d + 1) 0 3 (by omega) (by omega) (fun f l_f u_f e_f => ?_) (fun n_f => ?_)
    · subst e_f
      show RU_64 (d + 2) (0, 0) Post 14 ([(0, .int (nI t)), (1, .int (nI k)), (2, .int (nI f))]) ([.int 1]) S 0 0
      refine R_if ck_64_14 (fun c => absurd c (show ¬ (1 : Int32) = 0 from by decide)) (fun _ => ?_)
      refine R_seg sg_64_17 sk_64_17 (pc' := 18) (lv' := [(0, .int (nI t)), (1, .int (nI k)), (2, .int (nI f))]) (st' := [.int 1]) (S' := S) (kc' := 0) (ks' := 0) rfl ⟨trivial, trivial⟩ ?_
      refine R_goto ck_64_18 ?_
      refine R_iret ck_64_22 rfl rfl ?_
      exact h1 t k f (by omega) (by omega) (by omega) rfl rfl rfl
    · show RU_64 (d + 2) (0, 0) Post 14 ([(0, .int (nI t)), (1, .int (nI k)), (2, .int z)]) ([.int 0]) S 0 0
      refine R_if ck_64_14 (fun _ => ?_) (fun c => absurd (show (0 : Int32) = 0 from by decide) c)
      refine R_seg sg_64_21 sk_64_21 (pc' := 22) (lv' := [(0, .int (nI t)), (1, .int (nI k)), (2, .int z)]) (st' := [.int 0]) (S' := S) (kc' := 0) (ks' := 0) rfl ⟨trivial, trivial⟩ ?_
      refine R_iret ck_64_22 rfl rfl ?_
      exact h0 (fun q => by first | exact n_tk ⟨q.1, q.2.1⟩ | exact n_f q.2.2)
  · show RU_64 (d + 2) (0, 0) Post 5 ([(0, .int x), (1, .int y), (2, .int z)]) ([.int 0]) S 0 0
    refine R_if ck_64_5 (fun _ => ?_) (fun c => absurd (show (0 : Int32) = 0 from by decide) c)
    refine R_seg sg_64_21 sk_64_21 (pc' := 22) (lv' := [(0, .int x), (1, .int y), (2, .int z)]) (st' := [.int 0]) (S' := S) (kc' := 0) (ks' := 0) rfl ⟨trivial, trivial⟩ ?_
    refine R_iret ck_64_22 rfl rfl ?_
    exact h0 (fun q => by first | exact n_tk ⟨q.1, q.2.1⟩ | exact n_f q.2.2)
def c_thing (σ : Nat → Nat → Int32) (i : Nat) (b : Int32) : Nat → Nat → Int32 := up2 (up2 σ 24 i b) 25 i 0
set_option maxRecDepth 20000 in
theorem x_61 {d : Nat} {σ : Nat → Nat → Int32} {τ : Nat → Nat → Int64} {x1 x2 x3 : Int32} (hb : x3 = 0 ∨ x3 = 1) {Post : Option Value → Sto → Prop} (hs : ∀ t k : Nat, t < 6 → k < 32 → x1 = nI t → x2 = nI k → ¬ σ 24 (t * 32 + k) = x3 → Post (some (.int 1)) (stt (c_thing σ (t * 32 + k) x3) τ)) (hf : ¬ (rg x1 0 5 ∧ rg x2 0 31 ∧ ∀ t k : Nat, x1 = nI t → x2 = nI k → ¬ σ 24 (t * 32 + k) = x3) → Post (some (.int 0)) (stt σ τ)) : Ex (d + 3) 61 [.ref 0, .int x1, .int x2, .int x3] (stt σ τ) 0 0 Post := by
  refine en_61 (Nat.le_of_ble_eq_true rfl) ?_
  show RU_61 (d + 2) (0, 0) Post 0 ([(0, .ref 0), (1, .int x1), (2, .int x2), (3, .int x3)]) ([]) (stt σ τ) 0 0
  refine R_seg sg_61_0 sk_61_0 (pc' := 2) (lv' := [(0, .ref 0), (1, .int x1), (2, .int x2), (3, .int x3)]) (st' := [.int x2, .int x1]) (S' := stt σ τ) (kc' := 0) (ks' := 0) rfl ⟨trivial, trivial, trivial⟩ ?_
  refine R_stat ck_61_2 (by decide) [.int x1, .int x2] 0 0 (r := []) rfl rfl (Nat.le_of_ble_eq_true rfl) (Nat.le_refl _) (Nat.le_refl _) ?_
  refine x_62 (d := d) (fun t k b_t b_k e_t e_k => ?_) (fun n_tk => ?_)
  · subst e_t; subst e_k
    show RU_61 (d + 2) (0, 0) Post 5 ([(0, .ref 0), (1, .int (nI t)), (2, .int (nI k)), (3, .int x3)]) ([.int 1]) (stt σ τ) 0 0
    refine R_if ck_61_5 (fun _ => ?_) (fun c => absurd (show ¬ (1 : Int32) = 0 from by decide) c)
    refine R_seg sg_61_10 sk_61_10 (pc' := 27) (lv' := [(4, .int (((nI t) * 32) + (nI k))), (0, .ref 0), (1, .int (nI t)), (2, .int (nI k)), (3, .int x3)]) (st' := [.int (((nI t) * 32) + (nI k)), .ref 24]) (S' := stt σ τ) (kc' := 0) (ks' := 0) rfl ⟨trivial, trivial, trivial, trivial, trivial, (by decide), trivial, rfl, rfl, trivial, trivial⟩ ?_
    refine R_bald ca_61_27 (j := (t * 32) + k) rfl (by simp only [nl_0, nl_1, nl_2, nl_3, nl_4, nl_5, nl_6, nl_8, nl_20, nl_31, nl_32, pk_mul, nI_add]) (by omega) ?_
    refine R_seg sg_61_28 sk_61_28 (pc' := 29) (lv' := [(4, .int (((nI t) * 32) + (nI k))), (0, .ref 0), (1, .int (nI t)), (2, .int (nI k)), (3, .int x3)]) (st' := [.int x3, .int (σ 24 ((t * 32) + k))]) (S' := stt σ τ) (kc' := 0) (ks' := 0) rfl ⟨trivial, trivial⟩ ?_
    refine R_icmp ck_61_29 (fun (c_29 : ¬ (σ 24 ((t * 32) + k)) = x3) => ?_) (fun (c_29 : ¬ ¬ (σ 24 ((t * 32) + k)) = x3) => ?_)
    · refine R_seg sg_61_34 sk_61_34 (pc' := 44) (lv' := [(4, .int (((nI t) * 32) + (nI k))), (0, .ref 0), (1, .int (nI t)), (2, .int (nI k)), (3, .int x3)]) (st' := [.int x3, .int (((nI t) * 32) + (nI k)), .ref 24]) (S' := stt σ τ) (kc' := 0) (ks' := 0) rfl ⟨trivial, rfl, rfl, trivial, trivial, trivial⟩ ?_
      refine R_zast ca_61_44 (j := (t * 32) + k) rfl (by simp only [nl_0, nl_1, nl_2, nl_3, nl_4, nl_5, nl_6, nl_8, nl_20, nl_31, nl_32, pk_mul, nI_add]) (by omega) (vz hb) ?_
      refine R_seg sg_61_45 sk_61_45 (pc' := 55) (lv' := [(4, .int (((nI t) * 32) + (nI k))), (0, .ref 0), (1, .int (nI t)), (2, .int (nI k)), (3, .int x3)]) (st' := [.int 0, .int (((nI t) * 32) + (nI k)), .ref 25]) (S' := stt (up2 σ 24 ((t * 32) + k) x3) τ) (kc' := 0) (ks' := 0) rfl ⟨trivial, rfl, rfl, trivial, trivial, trivial⟩ ?_
      refine R_iast ca_61_55 (j := (t * 32) + k) rfl (by simp only [nl_0, nl_1, nl_2, nl_3, nl_4, nl_5, nl_6, nl_8, nl_20, nl_31, nl_32, pk_mul, nI_add]) (by omega) ?_
      refine R_seg sg_61_56 sk_61_56 (pc' := 57) (lv' := [(4, .int (((nI t) * 32) + (nI k))), (0, .ref 0), (1, .int (nI t)), (2, .int (nI k)), (3, .int x3)]) (st' := [.int 1]) (S' := stt (up2 (up2 σ 24 ((t * 32) + k) x3) 25 ((t * 32) + k) 0) τ) (kc' := 0) (ks' := 0) rfl ⟨trivial, trivial⟩ ?_
      refine R_iret ck_61_57 rfl rfl ?_
      exact hs t k (by omega) (by omega) rfl rfl (by assumption)
    · refine R_seg sg_61_32 sk_61_32 (pc' := 33) (lv' := [(4, .int (((nI t) * 32) + (nI k))), (0, .ref 0), (1, .int (nI t)), (2, .int (nI k)), (3, .int x3)]) (st' := [.int 0]) (S' := stt σ τ) (kc' := 0) (ks' := 0) rfl ⟨trivial, trivial⟩ ?_
      refine R_iret ck_61_33 rfl rfl ?_
      exact hf (fun q => by obtain ⟨-, -, h⟩ := q; exact h t k rfl rfl (Classical.not_not.mp (by assumption)))
  · show RU_61 (d + 2) (0, 0) Post 5 ([(0, .ref 0), (1, .int x1), (2, .int x2), (3, .int x3)]) ([.int 0]) (stt σ τ) 0 0
    refine R_if ck_61_5 (fun c => absurd c (show ¬ ¬ (0 : Int32) = 0 from by decide)) (fun _ => ?_)
    refine R_seg sg_61_8 sk_61_8 (pc' := 9) (lv' := [(0, .ref 0), (1, .int x1), (2, .int x2), (3, .int x3)]) (st' := [.int 0]) (S' := stt σ τ) (kc' := 0) (ks' := 0) rfl ⟨trivial, trivial⟩ ?_
    refine R_iret ck_61_9 rfl rfl ?_
    exact hf (fun q => n_tk ⟨q.1, q.2.1⟩)
def c_number (σ : Nat → Nat → Int32) (i f : Nat) (v : Int32) : Nat → Nat → Int32 := up2 (up2 σ 26 (i * 4 + f) v) 25 i 0
set_option maxRecDepth 20000 in
theorem x_63 {d : Nat} {σ : Nat → Nat → Int32} {τ : Nat → Nat → Int64} {x1 x2 x3 x4 : Int32} {Post : Option Value → Sto → Prop} (hs : ∀ t k f : Nat, t < 6 → k < 32 → f < 4 → x1 = nI t → x2 = nI k → x3 = nI f → ¬ x4 < (-99999) → ¬ 99999 < x4 → Post (some (.int 1)) (stt (c_number σ (t * 32 + k) f x4) τ)) (hf : ¬ (rg x1 0 5 ∧ rg x2 0 31 ∧ rg x3 0 3 ∧ ¬ x4 < (-99999) ∧ ¬ 99999 < x4) → Post (some (.int 0)) (stt σ τ)) : Ex (d + 4) 63 [.ref 0, .int x1, .int x2, .int x3, .int x4] (stt σ τ) 0 0 Post := by
  refine en_63 (Nat.le_of_ble_eq_true rfl) ?_
  show RU_63 (d + 3) (0, 0) Post 0 ([(0, .ref 0), (1, .int x1), (2, .int x2), (3, .int x3), (4, .int x4)]) ([]) (stt σ τ) 0 0
  refine R_seg sg_63_0 sk_63_0 (pc' := 3) (lv' := [(0, .ref 0), (1, .int x1), (2, .int x2), (3, .int x3), (4, .int x4)]) (st' := [.int x3, .int x2, .int x1]) (S' := stt σ τ) (kc' := 0) (ks' := 0) rfl ⟨trivial, trivial, trivial, trivial⟩ ?_
  refine R_stat ck_63_3 (by decide) [.int x1, .int x2, .int x3] 0 0 (r := []) rfl rfl (Nat.le_of_ble_eq_true rfl) (Nat.le_refl _) (Nat.le_refl _) ?_
  refine x_64 (d := d) (fun t k f b_t b_k b_f e_t e_k e_f => ?_) (fun n_c => ?_)
  · subst e_t; subst e_k; subst e_f
    show RU_63 (d + 3) (0, 0) Post 6 ([(0, .ref 0), (1, .int (nI t)), (2, .int (nI k)), (3, .int (nI f)), (4, .int x4)]) ([.int 1]) (stt σ τ) 0 0
    refine R_if ck_63_6 (fun c => absurd c (show ¬ (1 : Int32) = 0 from by decide)) (fun _ => ?_)
    refine R_seg sg_63_9 sk_63_9 (pc' := 15) (lv' := [(0, .ref 0), (1, .int (nI t)), (2, .int (nI k)), (3, .int (nI f)), (4, .int x4)]) (st' := [.int 99999, .int (-99999), .int x4]) (S' := stt σ τ) (kc' := 0) (ks' := 0) rfl ⟨trivial, trivial, trivial, trivial⟩ ?_
    refine R_stat ck_63_15 (by decide) [.int x4, .int (-99999), .int 99999] 0 0 (r := []) rfl rfl (Nat.le_of_ble_eq_true rfl) (Nat.le_refl _) (Nat.le_refl _) ?_
    refine x_57 (d := d + 2) (fun c_15a c_15b => ?_) (fun c_15n => ?_)
    · show RU_63 (d + 3) (0, 0) Post 18 ([(0, .ref 0), (1, .int (nI t)), (2, .int (nI k)), (3, .int (nI f)), (4, .int x4)]) ([.int 1]) (stt σ τ) 0 0
      refine R_if ck_63_18 (fun _ => ?_) (fun c => absurd (show ¬ (1 : Int32) = 0 from by decide) c)
      refine R_seg sg_63_23 sk_63_23 (pc' := 46) (lv' := [(5, .int (((nI t) * 32) + (nI k))), (0, .ref 0), (1, .int (nI t)), (2, .int (nI k)), (3, .int (nI f)), (4, .int x4)]) (st' := [.int x4, .int (((((nI t) * 32) + (nI k)) * 4) + (nI f)), .ref 26]) (S' := stt σ τ) (kc' := 0) (ks' := 0) rfl ⟨trivial, trivial, trivial, trivial, trivial, (by decide), trivial, rfl, rfl, trivial, trivial, trivial, trivial, trivial, trivial, trivial⟩ ?_
      refine R_iast ca_63_46 (j := (((t * 32) + k) * 4) + f) rfl (by simp only [nl_0, nl_1, nl_2, nl_3, nl_4, nl_5, nl_6, nl_8, nl_20, nl_31, nl_32, pk_mul, nI_add]) (by omega) ?_
      refine R_seg sg_63_47 sk_63_47 (pc' := 57) (lv' := [(5, .int (((nI t) * 32) + (nI k))), (0, .ref 0), (1, .int (nI t)), (2, .int (nI k)), (3, .int (nI f)), (4, .int x4)]) (st' := [.int 0, .int (((nI t) * 32) + (nI k)), .ref 25]) (S' := stt (up2 σ 26 ((((t * 32) + k) * 4) + f) x4) τ) (kc' := 0) (ks' := 0) rfl ⟨trivial, rfl, rfl, trivial, trivial, trivial⟩ ?_
      refine R_iast ca_63_57 (j := (t * 32) + k) rfl (by simp only [nl_0, nl_1, nl_2, nl_3, nl_4, nl_5, nl_6, nl_8, nl_20, nl_31, nl_32, pk_mul, nI_add]) (by omega) ?_
      refine R_seg sg_63_58 sk_63_58 (pc' := 59) (lv' := [(5, .int (((nI t) * 32) + (nI k))), (0, .ref 0), (1, .int (nI t)), (2, .int (nI k)), (3, .int (nI f)), (4, .int x4)]) (st' := [.int 1]) (S' := stt (up2 (up2 σ 26 ((((t * 32) + k) * 4) + f) x4) 25 ((t * 32) + k) 0) τ) (kc' := 0) (ks' := 0) rfl ⟨trivial, trivial⟩ ?_
      refine R_iret ck_63_59 rfl rfl ?_
      exact hs t k f (by omega) (by omega) (by omega) rfl rfl rfl c_15a c_15b
    · show RU_63 (d + 3) (0, 0) Post 18 ([(0, .ref 0), (1, .int (nI t)), (2, .int (nI k)), (3, .int (nI f)), (4, .int x4)]) ([.int 0]) (stt σ τ) 0 0
      refine R_if ck_63_18 (fun c => absurd c (show ¬ ¬ (0 : Int32) = 0 from by decide)) (fun _ => ?_)
      refine R_seg sg_63_21 sk_63_21 (pc' := 22) (lv' := [(0, .ref 0), (1, .int (nI t)), (2, .int (nI k)), (3, .int (nI f)), (4, .int x4)]) (st' := [.int 0]) (S' := stt σ τ) (kc' := 0) (ks' := 0) rfl ⟨trivial, trivial⟩ ?_
      refine R_iret ck_63_22 rfl rfl ?_
      first | exact hf (fun q => n_c ⟨q.1, q.2.1, q.2.2.1⟩) | (refine hf (fun q => ?_); rcases c_15n with c | c; exact q.2.2.2.1 c; exact q.2.2.2.2 c)
  · show RU_63 (d + 3) (0, 0) Post 6 ([(0, .ref 0), (1, .int x1), (2, .int x2), (3, .int x3), (4, .int x4)]) ([.int 0]) (stt σ τ) 0 0
    refine R_if ck_63_6 (fun _ => ?_) (fun c => absurd (show (0 : Int32) = 0 from by decide) c)
    refine R_seg sg_63_21 sk_63_21 (pc' := 22) (lv' := [(0, .ref 0), (1, .int x1), (2, .int x2), (3, .int x3), (4, .int x4)]) (st' := [.int 0]) (S' := stt σ τ) (kc' := 0) (ks' := 0) rfl ⟨trivial, trivial⟩ ?_
    refine R_iret ck_63_22 rfl rfl ?_
    first | exact hf (fun q => n_c ⟨q.1, q.2.1, q.2.2.1⟩) | (refine hf (fun q => ?_); rcases c_15n with c | c; exact q.2.2.2.1 c; exact q.2.2.2.2 c)
def c_key (σ : Nat → Nat → Int32) (i f : Nat) (v : Int32) : Nat → Nat → Int32 := up2 (up2 σ 27 (i * 4 + f) v) 25 i 0
set_option maxRecDepth 20000 in
theorem x_65 {d : Nat} {σ : Nat → Nat → Int32} {τ : Nat → Nat → Int64} {x1 x2 x3 x4 : Int32} {Post : Option Value → Sto → Prop} (hs : ∀ t k f : Nat, t < 6 → k < 32 → f < 4 → x1 = nI t → x2 = nI k → x3 = nI f → ¬ x4 < (-1) → ¬ 31 < x4 → Post (some (.int 1)) (stt (c_key σ (t * 32 + k) f x4) τ)) (hf : ¬ (rg x1 0 5 ∧ rg x2 0 31 ∧ rg x3 0 3 ∧ ¬ x4 < (-1) ∧ ¬ 31 < x4) → Post (some (.int 0)) (stt σ τ)) : Ex (d + 4) 65 [.ref 0, .int x1, .int x2, .int x3, .int x4] (stt σ τ) 0 0 Post := by
  refine en_65 (Nat.le_of_ble_eq_true rfl) ?_
  show RU_65 (d + 3) (0, 0) Post 0 ([(0, .ref 0), (1, .int x1), (2, .int x2), (3, .int x3), (4, .int x4)]) ([]) (stt σ τ) 0 0
  refine R_seg sg_65_0 sk_65_0 (pc' := 3) (lv' := [(0, .ref 0), (1, .int x1), (2, .int x2), (3, .int x3), (4, .int x4)]) (st' := [.int x3, .int x2, .int x1]) (S' := stt σ τ) (kc' := 0) (ks' := 0) rfl ⟨trivial, trivial, trivial, trivial⟩ ?_
  refine R_stat ck_65_3 (by decide) [.int x1, .int x2, .int x3] 0 0 (r := []) rfl rfl (Nat.le_of_ble_eq_true rfl) (Nat.le_refl _) (Nat.le_refl _) ?_
  refine x_64 (d := d) (fun t k f b_t b_k b_f e_t e_k e_f => ?_) (fun n_c => ?_)
  · subst e_t; subst e_k; subst e_f
    show RU_65 (d + 3) (0, 0) Post 6 ([(0, .ref 0), (1, .int (nI t)), (2, .int (nI k)), (3, .int (nI f)), (4, .int x4)]) ([.int 1]) (stt σ τ) 0 0
    refine R_if ck_65_6 (fun c => absurd c (show ¬ (1 : Int32) = 0 from by decide)) (fun _ => ?_)
    refine R_seg sg_65_9 sk_65_9 (pc' := 14) (lv' := [(0, .ref 0), (1, .int (nI t)), (2, .int (nI k)), (3, .int (nI f)), (4, .int x4)]) (st' := [.int 31, .int (-1), .int x4]) (S' := stt σ τ) (kc' := 0) (ks' := 0) rfl ⟨trivial, trivial, trivial, trivial⟩ ?_
    refine R_stat ck_65_14 (by decide) [.int x4, .int (-1), .int 31] 0 0 (r := []) rfl rfl (Nat.le_of_ble_eq_true rfl) (Nat.le_refl _) (Nat.le_refl _) ?_
    refine x_57 (d := d + 2) (fun c_14a c_14b => ?_) (fun c_14n => ?_)
    · show RU_65 (d + 3) (0, 0) Post 17 ([(0, .ref 0), (1, .int (nI t)), (2, .int (nI k)), (3, .int (nI f)), (4, .int x4)]) ([.int 1]) (stt σ τ) 0 0
      refine R_if ck_65_17 (fun _ => ?_) (fun c => absurd (show ¬ (1 : Int32) = 0 from by decide) c)
      refine R_seg sg_65_22 sk_65_22 (pc' := 45) (lv' := [(5, .int (((nI t) * 32) + (nI k))), (0, .ref 0), (1, .int (nI t)), (2, .int (nI k)), (3, .int (nI f)), (4, .int x4)]) (st' := [.int x4, .int (((((nI t) * 32) + (nI k)) * 4) + (nI f)), .ref 27]) (S' := stt σ τ) (kc' := 0) (ks' := 0) rfl ⟨trivial, trivial, trivial, trivial, trivial, (by decide), trivial, rfl, rfl, trivial, trivial, trivial, trivial, trivial, trivial, trivial⟩ ?_
      refine R_iast ca_65_45 (j := (((t * 32) + k) * 4) + f) rfl (by simp only [nl_0, nl_1, nl_2, nl_3, nl_4, nl_5, nl_6, nl_8, nl_20, nl_31, nl_32, pk_mul, nI_add]) (by omega) ?_
      refine R_seg sg_65_46 sk_65_46 (pc' := 56) (lv' := [(5, .int (((nI t) * 32) + (nI k))), (0, .ref 0), (1, .int (nI t)), (2, .int (nI k)), (3, .int (nI f)), (4, .int x4)]) (st' := [.int 0, .int (((nI t) * 32) + (nI k)), .ref 25]) (S' := stt (up2 σ 27 ((((t * 32) + k) * 4) + f) x4) τ) (kc' := 0) (ks' := 0) rfl ⟨trivial, rfl, rfl, trivial, trivial, trivial⟩ ?_
      refine R_iast ca_65_56 (j := (t * 32) + k) rfl (by simp only [nl_0, nl_1, nl_2, nl_3, nl_4, nl_5, nl_6, nl_8, nl_20, nl_31, nl_32, pk_mul, nI_add]) (by omega) ?_
      refine R_seg sg_65_57 sk_65_57 (pc' := 58) (lv' := [(5, .int (((nI t) * 32) + (nI k))), (0, .ref 0), (1, .int (nI t)), (2, .int (nI k)), (3, .int (nI f)), (4, .int x4)]) (st' := [.int 1]) (S' := stt (up2 (up2 σ 27 ((((t * 32) + k) * 4) + f) x4) 25 ((t * 32) + k) 0) τ) (kc' := 0) (ks' := 0) rfl ⟨trivial, trivial⟩ ?_
      refine R_iret ck_65_58 rfl rfl ?_
      exact hs t k f (by omega) (by omega) (by omega) rfl rfl rfl c_14a c_14b
    · show RU_65 (d + 3) (0, 0) Post 17 ([(0, .ref 0), (1, .int (nI t)), (2, .int (nI k)), (3, .int (nI f)), (4, .int x4)]) ([.int 0]) (stt σ τ) 0 0
      refine R_if ck_65_17 (fun c => absurd c (show ¬ ¬ (0 : Int32) = 0 from by decide)) (fun _ => ?_)
      refine R_seg sg_65_20 sk_65_20 (pc' := 21) (lv' := [(0, .ref 0), (1, .int (nI t)), (2, .int (nI k)), (3, .int (nI f)), (4, .int x4)]) (st' := [.int 0]) (S' := stt σ τ) (kc' := 0) (ks' := 0) rfl ⟨trivial, trivial⟩ ?_
      refine R_iret ck_65_21 rfl rfl ?_
      first | exact hf (fun q => n_c ⟨q.1, q.2.1, q.2.2.1⟩) | (refine hf (fun q => ?_); rcases c_14n with c | c; exact q.2.2.2.1 c; exact q.2.2.2.2 c)
  · show RU_65 (d + 3) (0, 0) Post 6 ([(0, .ref 0), (1, .int x1), (2, .int x2), (3, .int x3), (4, .int x4)]) ([.int 0]) (stt σ τ) 0 0
    refine R_if ck_65_6 (fun _ => ?_) (fun c => absurd (show (0 : Int32) = 0 from by decide) c)
    refine R_seg sg_65_20 sk_65_20 (pc' := 21) (lv' := [(0, .ref 0), (1, .int x1), (2, .int x2), (3, .int x3), (4, .int x4)]) (st' := [.int 0]) (S' := stt σ τ) (kc' := 0) (ks' := 0) rfl ⟨trivial, trivial⟩ ?_
    refine R_iret ck_65_21 rfl rfl ?_
    first | exact hf (fun q => n_c ⟨q.1, q.2.1, q.2.2.1⟩) | (refine hf (fun q => ?_); rcases c_14n with c | c; exact q.2.2.2.1 c; exact q.2.2.2.2 c)
def c_row (σ : Nat → Nat → Int32) (i f n : Nat) (v : Int32) : Nat → Nat → Int32 := up2 (up2 (up2 σ 28 (i * 4 + f) (nI n)) 29 (i * 4 + f) v) 25 i 0
set_option maxRecDepth 20000 in
theorem x_66 {d : Nat} {σ : Nat → Nat → Int32} {τ : Nat → Nat → Int64} {x1 x2 x3 x4 x5 : Int32} {Post : Option Value → Sto → Prop} (hs : ∀ t k f n : Nat, t < 6 → k < 32 → f < 4 → n ≤ 5 → x1 = nI t → x2 = nI k → x3 = nI f → x4 = nI n → Post (some (.int 1)) (stt (c_row σ (t * 32 + k) f n x5) τ)) (hf : ¬ (rg x1 0 5 ∧ rg x2 0 31 ∧ rg x3 0 3 ∧ rg x4 0 5) → Post (some (.int 0)) (stt σ τ)) : Ex (d + 4) 66 [.ref 0, .int x1, .int x2, .int x3, .int x4, .int x5] (stt σ τ) 0 0 Post := by
  refine en_66 (Nat.le_of_ble_eq_true rfl) ?_
  show RU_66 (d + 3) (0, 0) Post 0 ([(0, .ref 0), (1, .int x1), (2, .int x2), (3, .int x3), (4, .int x4), (5, .int x5)]) ([]) (stt σ τ) 0 0
  refine R_seg sg_66_0 sk_66_0 (pc' := 3) (lv' := [(0, .ref 0), (1, .int x1), (2, .int x2), (3, .int x3), (4, .int x4), (5, .int x5)]) (st' := [.int x3, .int x2, .int x1]) (S' := stt σ τ) (kc' := 0) (ks' := 0) rfl ⟨trivial, trivial, trivial, trivial⟩ ?_
  refine R_stat ck_66_3 (by decide) [.int x1, .int x2, .int x3] 0 0 (r := []) rfl rfl (Nat.le_of_ble_eq_true rfl) (Nat.le_refl _) (Nat.le_refl _) ?_
  refine x_64 (d := d) (fun t k f b_t b_k b_f e_t e_k e_f => ?_) (fun n_c => ?_)
  · subst e_t; subst e_k; subst e_f
    show RU_66 (d + 3) (0, 0) Post 6 ([(0, .ref 0), (1, .int (nI t)), (2, .int (nI k)), (3, .int (nI f)), (4, .int x4), (5, .int x5)]) ([.int 1]) (stt σ τ) 0 0
    refine R_if ck_66_6 (fun c => absurd c (show ¬ (1 : Int32) = 0 from by decide)) (fun _ => ?_)
    refine R_seg sg_66_9 sk_66_9 (pc' := 13) (lv' := [(0, .ref 0), (1, .int (nI t)), (2, .int (nI k)), (3, .int (nI f)), (4, .int x4), (5, .int x5)]) (st' := [.int 5, .int 0, .int x4]) (S' := stt σ τ) (kc' := 0) (ks' := 0) rfl ⟨trivial, trivial, trivial, trivial⟩ ?_
    refine R_stat ck_66_13 (by decide) [.int x4, .int 0, .int 5] 0 0 (r := []) rfl rfl (Nat.le_of_ble_eq_true rfl) (Nat.le_refl _) (Nat.le_refl _) ?_
    refine xn_57 (d := d + 2) 0 5 (by omega) (by omega) (fun n l_n u_n e_n => ?_) (fun n_n => ?_)
    · subst e_n
      show RU_66 (d + 3) (0, 0) Post 16 ([(0, .ref 0), (1, .int (nI t)), (2, .int (nI k)), (3, .int (nI f)), (4, .int (nI n)), (5, .int x5)]) ([.int 1]) (stt σ τ) 0 0
      refine R_if ck_66_16 (fun _ => ?_) (fun c => absurd (show ¬ (1 : Int32) = 0 from by decide) c)
      refine R_seg sg_66_21 sk_66_21 (pc' := 44) (lv' := [(6, .int (((nI t) * 32) + (nI k))), (0, .ref 0), (1, .int (nI t)), (2, .int (nI k)), (3, .int (nI f)), (4, .int (nI n)), (5, .int x5)]) (st' := [.int (nI n), .int (((((nI t) * 32) + (nI k)) * 4) + (nI f)), .ref 28]) (S' := stt σ τ) (kc' := 0) (ks' := 0) rfl ⟨trivial, trivial, trivial, trivial, trivial, (by decide), trivial, rfl, rfl, trivial, trivial, trivial, trivial, trivial, trivial, trivial⟩ ?_
      refine R_iast ca_66_44 (j := (((t * 32) + k) * 4) + f) rfl (by simp only [nl_0, nl_1, nl_2, nl_3, nl_4, nl_5, nl_6, nl_8, nl_20, nl_31, nl_32, pk_mul, nI_add]) (by omega) ?_
      refine R_seg sg_66_45 sk_66_45 (pc' := 60) (lv' := [(6, .int (((nI t) * 32) + (nI k))), (0, .ref 0), (1, .int (nI t)), (2, .int (nI k)), (3, .int (nI f)), (4, .int (nI n)), (5, .int x5)]) (st' := [.int x5, .int (((((nI t) * 32) + (nI k)) * 4) + (nI f)), .ref 29]) (S' := stt (up2 σ 28 ((((t * 32) + k) * 4) + f) (nI n)) τ) (kc' := 0) (ks' := 0) rfl ⟨trivial, rfl, rfl, trivial, trivial, trivial, trivial, trivial, trivial, trivial⟩ ?_
      refine R_iast ca_66_60 (j := (((t * 32) + k) * 4) + f) rfl (by simp only [nl_0, nl_1, nl_2, nl_3, nl_4, nl_5, nl_6, nl_8, nl_20, nl_31, nl_32, pk_mul, nI_add]) (by omega) ?_
      refine R_seg sg_66_61 sk_66_61 (pc' := 71) (lv' := [(6, .int (((nI t) * 32) + (nI k))), (0, .ref 0), (1, .int (nI t)), (2, .int (nI k)), (3, .int (nI f)), (4, .int (nI n)), (5, .int x5)]) (st' := [.int 0, .int (((nI t) * 32) + (nI k)), .ref 25]) (S' := stt (up2 (up2 σ 28 ((((t * 32) + k) * 4) + f) (nI n)) 29 ((((t * 32) + k) * 4) + f) x5) τ) (kc' := 0) (ks' := 0) rfl ⟨trivial, rfl, rfl, trivial, trivial, trivial⟩ ?_
      refine R_iast ca_66_71 (j := (t * 32) + k) rfl (by simp only [nl_0, nl_1, nl_2, nl_3, nl_4, nl_5, nl_6, nl_8, nl_20, nl_31, nl_32, pk_mul, nI_add]) (by omega) ?_
      refine R_seg sg_66_72 sk_66_72 (pc' := 73) (lv' := [(6, .int (((nI t) * 32) + (nI k))), (0, .ref 0), (1, .int (nI t)), (2, .int (nI k)), (3, .int (nI f)), (4, .int (nI n)), (5, .int x5)]) (st' := [.int 1]) (S' := stt (up2 (up2 (up2 σ 28 ((((t * 32) + k) * 4) + f) (nI n)) 29 ((((t * 32) + k) * 4) + f) x5) 25 ((t * 32) + k) 0) τ) (kc' := 0) (ks' := 0) rfl ⟨trivial, trivial⟩ ?_
      refine R_iret ck_66_73 rfl rfl ?_
      exact hs t k f n (by omega) (by omega) (by omega) (by omega) rfl rfl rfl rfl
    · show RU_66 (d + 3) (0, 0) Post 16 ([(0, .ref 0), (1, .int (nI t)), (2, .int (nI k)), (3, .int (nI f)), (4, .int x4), (5, .int x5)]) ([.int 0]) (stt σ τ) 0 0
      refine R_if ck_66_16 (fun c => absurd c (show ¬ ¬ (0 : Int32) = 0 from by decide)) (fun _ => ?_)
      refine R_seg sg_66_19 sk_66_19 (pc' := 20) (lv' := [(0, .ref 0), (1, .int (nI t)), (2, .int (nI k)), (3, .int (nI f)), (4, .int x4), (5, .int x5)]) (st' := [.int 0]) (S' := stt σ τ) (kc' := 0) (ks' := 0) rfl ⟨trivial, trivial⟩ ?_
      refine R_iret ck_66_20 rfl rfl ?_
      first | exact hf (fun q => n_c ⟨q.1, q.2.1, q.2.2.1⟩) | exact hf (fun q => n_n q.2.2.2)
  · show RU_66 (d + 3) (0, 0) Post 6 ([(0, .ref 0), (1, .int x1), (2, .int x2), (3, .int x3), (4, .int x4), (5, .int x5)]) ([.int 0]) (stt σ τ) 0 0
    refine R_if ck_66_6 (fun _ => ?_) (fun c => absurd (show (0 : Int32) = 0 from by decide) c)
    refine R_seg sg_66_19 sk_66_19 (pc' := 20) (lv' := [(0, .ref 0), (1, .int x1), (2, .int x2), (3, .int x3), (4, .int x4), (5, .int x5)]) (st' := [.int 0]) (S' := stt σ τ) (kc' := 0) (ks' := 0) rfl ⟨trivial, trivial⟩ ?_
    refine R_iret ck_66_20 rfl rfl ?_
    first | exact hf (fun q => n_c ⟨q.1, q.2.1, q.2.2.1⟩) | exact hf (fun q => n_n q.2.2.2)
def c_asker (σ : Nat → Nat → Int32) (a r u f : Nat) : Nat → Nat → Int32 := up2 (up2 (up2 (up2 σ 2 a (nI r)) 3 a (nI u)) 4 a (nI f)) 5 a (if nI u < σ 5 a then nI u else σ 5 a)
set_option maxRecDepth 20000 in
theorem x_67 {d : Nat} {σ : Nat → Nat → Int32} {τ : Nat → Nat → Int64} {x1 x2 x3 x4 : Int32} {Post : Option Value → Sto → Prop} (hs : ∀ a r u f : Nat, a < 4 → r ≤ 63 → 1 ≤ u → u ≤ 500 → f ≤ 50 → x1 = nI a → x2 = nI r → x3 = nI u → x4 = nI f → Post (some (.int 1)) (stt (c_asker σ a r u f) τ)) (hf : ¬ (rg x1 0 3 ∧ rg x2 0 63 ∧ rg x3 1 500 ∧ rg x4 0 50) → Post (some (.int 0)) (stt σ τ)) : Ex (d + 2) 67 [.ref 0, .int x1, .int x2, .int x3, .int x4] (stt σ τ) 0 0 Post := by
  refine en_67 (Nat.le_of_ble_eq_true rfl) ?_
  show RU_67 (d + 1) (0, 0) Post 0 ([(0, .ref 0), (1, .int x1), (2, .int x2), (3, .int x3), (4, .int x4)]) ([]) (stt σ τ) 0 0
  refine R_seg sg_67_0 sk_67_0 (pc' := 3) (lv' := [(0, .ref 0), (1, .int x1), (2, .int x2), (3, .int x3), (4, .int x4)]) (st' := [.int 3, .int 0, .int x1]) (S' := stt σ τ) (kc' := 0) (ks' := 0) rfl ⟨trivial, trivial, trivial, trivial⟩ ?_
  refine R_stat ck_67_3 (by decide) [.int x1, .int 0, .int 3] 0 0 (r := []) rfl rfl (Nat.le_of_ble_eq_true rfl) (Nat.le_refl _) (Nat.le_refl _) ?_
  refine xn_57 (d := d) 0 3 (by omega) (by omega) (fun a l_a u_a e_a => ?_) (fun n_a => ?_)
  · subst e_a
    show RU_67 (d + 1) (0, 0) Post 6 ([(0, .ref 0), (1, .int (nI a)), (2, .int x2), (3, .int x3), (4, .int x4)]) ([.int 1]) (stt σ τ) 0 0
    refine R_if ck_67_6 (fun c => absurd c (show ¬ (1 : Int32) = 0 from by decide)) (fun _ => ?_)
    refine R_seg sg_67_9 sk_67_9 (pc' := 13) (lv' := [(0, .ref 0), (1, .int (nI a)), (2, .int x2), (3, .int x3), (4, .int x4)]) (st' := [.int 63, .int 0, .int x2]) (S' := stt σ τ) (kc' := 0) (ks' := 0) rfl ⟨trivial, trivial, trivial, trivial⟩ ?_
    refine R_stat ck_67_13 (by decide) [.int x2, .int 0, .int 63] 0 0 (r := []) rfl rfl (Nat.le_of_ble_eq_true rfl) (Nat.le_refl _) (Nat.le_refl _) ?_
    refine xn_57 (d := d) 0 63 (by omega) (by omega) (fun r l_r u_r e_r => ?_) (fun n_r => ?_)
    · subst e_r
      show RU_67 (d + 1) (0, 0) Post 16 ([(0, .ref 0), (1, .int (nI a)), (2, .int (nI r)), (3, .int x3), (4, .int x4)]) ([.int 1]) (stt σ τ) 0 0
      refine R_if ck_67_16 (fun c => absurd c (show ¬ (1 : Int32) = 0 from by decide)) (fun _ => ?_)
      refine R_seg sg_67_19 sk_67_19 (pc' := 24) (lv' := [(0, .ref 0), (1, .int (nI a)), (2, .int (nI r)), (3, .int x3), (4, .int x4)]) (st' := [.int 500, .int 1, .int x3]) (S' := stt σ τ) (kc' := 0) (ks' := 0) rfl ⟨trivial, trivial, trivial, trivial⟩ ?_
      refine R_stat ck_67_24 (by decide) [.int x3, .int 1, .int 500] 0 0 (r := []) rfl rfl (Nat.le_of_ble_eq_true rfl) (Nat.le_refl _) (Nat.le_refl _) ?_
      refine xn_57 (d := d) 1 500 (by omega) (by omega) (fun u l_u u_u e_u => ?_) (fun n_u => ?_)
      · subst e_u
        show RU_67 (d + 1) (0, 0) Post 27 ([(0, .ref 0), (1, .int (nI a)), (2, .int (nI r)), (3, .int (nI u)), (4, .int x4)]) ([.int 1]) (stt σ τ) 0 0
        refine R_if ck_67_27 (fun c => absurd c (show ¬ (1 : Int32) = 0 from by decide)) (fun _ => ?_)
        refine R_seg sg_67_30 sk_67_30 (pc' := 35) (lv' := [(0, .ref 0), (1, .int (nI a)), (2, .int (nI r)), (3, .int (nI u)), (4, .int x4)]) (st' := [.int 50, .int 0, .int x4]) (S' := stt σ τ) (kc' := 0) (ks' := 0) rfl ⟨trivial, trivial, trivial, trivial⟩ ?_
        refine R_stat ck_67_35 (by decide) [.int x4, .int 0, .int 50] 0 0 (r := []) rfl rfl (Nat.le_of_ble_eq_true rfl) (Nat.le_refl _) (Nat.le_refl _) ?_
        refine xn_57 (d := d) 0 50 (by omega) (by omega) (fun f l_f u_f e_f => ?_) (fun n_f => ?_)
        · subst e_f
          show RU_67 (d + 1) (0, 0) Post 38 ([(0, .ref 0), (1, .int (nI a)), (2, .int (nI r)), (3, .int (nI u)), (4, .int (nI f))]) ([.int 1]) (stt σ τ) 0 0
          refine R_if ck_67_38 (fun _ => ?_) (fun c => absurd (show ¬ (1 : Int32) = 0 from by decide) c)
          refine R_seg sg_67_43 sk_67_43 (pc' := 52) (lv' := [(0, .ref 0), (1, .int (nI a)), (2, .int (nI r)), (3, .int (nI u)), (4, .int (nI f))]) (st' := [.int (nI r), .int (nI a), .ref 2]) (S' := stt σ τ) (kc' := 0) (ks' := 0) rfl ⟨trivial, rfl, rfl, trivial, trivial, trivial⟩ ?_
          refine R_iast ca_67_52 (j := a) rfl rfl (by omega) ?_
          refine R_seg sg_67_53 sk_67_53 (pc' := 62) (lv' := [(0, .ref 0), (1, .int (nI a)), (2, .int (nI r)), (3, .int (nI u)), (4, .int (nI f))]) (st' := [.int (nI u), .int (nI a), .ref 3]) (S' := stt (up2 σ 2 a (nI r)) τ) (kc' := 0) (ks' := 0) rfl ⟨trivial, rfl, rfl, trivial, trivial, trivial⟩ ?_
          refine R_iast ca_67_62 (j := a) rfl rfl (by omega) ?_
          refine R_seg sg_67_63 sk_67_63 (pc' := 73) (lv' := [(0, .ref 0), (1, .int (nI a)), (2, .int (nI r)), (3, .int (nI u)), (4, .int (nI f))]) (st' := [.int (nI f), .int (nI a), .ref 4]) (S' := stt (up2 (up2 σ 2 a (nI r)) 3 a (nI u)) τ) (kc' := 0) (ks' := 0) rfl ⟨trivial, rfl, rfl, trivial, trivial, trivial⟩ ?_
          refine R_iast ca_67_73 (j := a) rfl rfl (by omega) ?_
          refine R_seg sg_67_74 sk_67_74 (pc' := 90) (lv' := [(0, .ref 0), (1, .int (nI a)), (2, .int (nI r)), (3, .int (nI u)), (4, .int (nI f))]) (st' := [.int (nI a), .ref 5, .int (nI a), .ref 5]) (S' := stt (up2 (up2 (up2 σ 2 a (nI r)) 3 a (nI u)) 4 a (nI f)) τ) (kc' := 0) (ks' := 0) rfl ⟨trivial, rfl, rfl, trivial, trivial, rfl, rfl, trivial, trivial⟩ ?_
          refine R_iald ca_67_90 (j := a) rfl rfl (by omega) ?_
          refine R_seg sg_67_91 sk_67_91 (pc' := 95) (lv' := [(0, .ref 0), (1, .int (nI a)), (2, .int (nI r)), (3, .int (nI u)), (4, .int (nI f))]) (st' := [.int (if nI u < σ 5 a then nI u else σ 5 a), .int (nI a), .ref 5]) (S' := stt (up2 (up2 (up2 σ 2 a (nI r)) 3 a (nI u)) 4 a (nI f)) τ) (kc' := 0) (ks' := 0) rfl ⟨trivial, (Nat.le_of_ble_eq_true rfl), trivial⟩ ?_
          refine R_iast ca_67_95 (j := a) rfl rfl (by omega) ?_
          refine R_seg sg_67_96 sk_67_96 (pc' := 97) (lv' := [(0, .ref 0), (1, .int (nI a)), (2, .int (nI r)), (3, .int (nI u)), (4, .int (nI f))]) (st' := [.int 1]) (S' := stt (up2 (up2 (up2 (up2 σ 2 a (nI r)) 3 a (nI u)) 4 a (nI f)) 5 a (if nI u < σ 5 a then nI u else σ 5 a)) τ) (kc' := 0) (ks' := 0) rfl ⟨trivial, trivial⟩ ?_
          refine R_iret ck_67_97 rfl rfl ?_
          exact hs a r u f (by omega) (by omega) (by omega) (by omega) (by omega) rfl rfl rfl rfl
        · show RU_67 (d + 1) (0, 0) Post 38 ([(0, .ref 0), (1, .int (nI a)), (2, .int (nI r)), (3, .int (nI u)), (4, .int x4)]) ([.int 0]) (stt σ τ) 0 0
          refine R_if ck_67_38 (fun c => absurd c (show ¬ ¬ (0 : Int32) = 0 from by decide)) (fun _ => ?_)
          refine R_seg sg_67_41 sk_67_41 (pc' := 42) (lv' := [(0, .ref 0), (1, .int (nI a)), (2, .int (nI r)), (3, .int (nI u)), (4, .int x4)]) (st' := [.int 0]) (S' := stt σ τ) (kc' := 0) (ks' := 0) rfl ⟨trivial, trivial⟩ ?_
          refine R_iret ck_67_42 rfl rfl ?_
          exact hf (fun q => by first | exact n_a q.1 | exact n_r q.2.1 | exact n_u q.2.2.1 | exact n_f q.2.2.2)
      · show RU_67 (d + 1) (0, 0) Post 27 ([(0, .ref 0), (1, .int (nI a)), (2, .int (nI r)), (3, .int x3), (4, .int x4)]) ([.int 0]) (stt σ τ) 0 0
        refine R_if ck_67_27 (fun _ => ?_) (fun c => absurd (show (0 : Int32) = 0 from by decide) c)
        refine R_seg sg_67_41 sk_67_41 (pc' := 42) (lv' := [(0, .ref 0), (1, .int (nI a)), (2, .int (nI r)), (3, .int x3), (4, .int x4)]) (st' := [.int 0]) (S' := stt σ τ) (kc' := 0) (ks' := 0) rfl ⟨trivial, trivial⟩ ?_
        refine R_iret ck_67_42 rfl rfl ?_
        exact hf (fun q => by first | exact n_a q.1 | exact n_r q.2.1 | exact n_u q.2.2.1 | exact n_f q.2.2.2)
    · show RU_67 (d + 1) (0, 0) Post 16 ([(0, .ref 0), (1, .int (nI a)), (2, .int x2), (3, .int x3), (4, .int x4)]) ([.int 0]) (stt σ τ) 0 0
      refine R_if ck_67_16 (fun _ => ?_) (fun c => absurd (show (0 : Int32) = 0 from by decide) c)
      refine R_seg sg_67_41 sk_67_41 (pc' := 42) (lv' := [(0, .ref 0), (1, .int (nI a)), (2, .int x2), (3, .int x3), (4, .int x4)]) (st' := [.int 0]) (S' := stt σ τ) (kc' := 0) (ks' := 0) rfl ⟨trivial, trivial⟩ ?_
      refine R_iret ck_67_42 rfl rfl ?_
      exact hf (fun q => by first | exact n_a q.1 | exact n_r q.2.1 | exact n_u q.2.2.1 | exact n_f q.2.2.2)
  · show RU_67 (d + 1) (0, 0) Post 6 ([(0, .ref 0), (1, .int x1), (2, .int x2), (3, .int x3), (4, .int x4)]) ([.int 0]) (stt σ τ) 0 0
    refine R_if ck_67_6 (fun _ => ?_) (fun c => absurd (show (0 : Int32) = 0 from by decide) c)
    refine R_seg sg_67_41 sk_67_41 (pc' := 42) (lv' := [(0, .ref 0), (1, .int x1), (2, .int x2), (3, .int x3), (4, .int x4)]) (st' := [.int 0]) (S' := stt σ τ) (kc' := 0) (ks' := 0) rfl ⟨trivial, trivial⟩ ?_
    refine R_iret ck_67_42 rfl rfl ?_
    exact hf (fun q => by first | exact n_a q.1 | exact n_r q.2.1 | exact n_u q.2.2.1 | exact n_f q.2.2.2)
def gb (x y : Int32) : Int32 := if y < x then y else x
def c_goBy (σ : Nat → Nat → Int32) (t : Int32) : Nat → Nat → Int32 := up2 (up2 (up2 (up2 (up2 σ 1 4 (σ 1 4 + t)) 5 0 (gb (σ 3 0) (σ 5 0 + t * σ 4 0))) 5 1 (gb (σ 3 1) (σ 5 1 + t * σ 4 1))) 5 2 (gb (σ 3 2) (σ 5 2 + t * σ 4 2))) 5 3 (gb (σ 3 3) (σ 5 3 + t * σ 4 3))
set_option maxRecDepth 20000 in
theorem x_7 {d : Nat} {σ : Nat → Nat → Int32} {τ : Nat → Nat → Int64} {t : Int32} {Post : Option Value → Sto → Prop} (hp : Post none (stt (c_goBy σ t) τ)) : Ex (d + 1) 7 [.ref 1, .int t] (stt σ τ) 0 0 Post := by
  refine en_7 (Nat.le_of_ble_eq_true rfl) ?_
  show RU_7 d (0, 0) Post 0 ([(0, .ref 1), (1, .int t)]) ([]) (stt σ τ) 0 0
  refine R_seg sg_7_0 sk_7_0 (pc' := 12) (lv' := [(2, .int 0), (0, .ref 1), (1, .int t)]) (st' := []) (S' := stt (up2 σ 1 4 ((σ 1 4) + t)) τ) (kc' := 0) (ks' := 0) rfl ⟨trivial, rfl, rfl, trivial, trivial, ⟨rfl, ⟨rfl, rfl⟩⟩, trivial, (by decide), trivial⟩ ?_
  refine R_seg sg_7_12 sk_7_12 (pc' := 14) (lv' := [(2, .int 0), (0, .ref 1), (1, .int t)]) (st' := [.int 4, .int 0]) (S' := stt (up2 σ 1 4 ((σ 1 4) + t)) τ) (kc' := 0) (ks' := 0) rfl ⟨trivial, trivial, trivial⟩ ?_
  refine R_icmp ck_7_14 (fun c => absurd c (show ¬ (4 : Int32) ≤ 0 from by decide)) (fun _ => ?_)
  refine R_seg sg_7_17 sk_7_17 (pc' := 27) (lv' := [(2, .int 0), (0, .ref 1), (1, .int t)]) (st' := [.int 0, .ref 3, .int 0, .ref 5]) (S' := stt (up2 σ 1 4 ((σ 1 4) + t)) τ) (kc' := 0) (ks' := 0) rfl ⟨trivial, rfl, trivial, trivial, rfl, trivial, trivial⟩ ?_
  refine R_iald ca_7_27 (j := 0) rfl rfl (by omega) ?_
  refine R_seg sg_7_28 sk_7_28 (pc' := 33) (lv' := [(2, .int 0), (0, .ref 1), (1, .int t)]) (st' := [.int 0, .ref 5, .int (σ 3 0), .int 0, .ref 5]) (S' := stt (up2 σ 1 4 ((σ 1 4) + t)) τ) (kc' := 0) (ks' := 0) rfl ⟨trivial, rfl, trivial, trivial⟩ ?_
  refine R_iald ca_7_33 (j := 0) rfl rfl (by omega) ?_
  refine R_seg sg_7_34 sk_7_34 (pc' := 40) (lv' := [(2, .int 0), (0, .ref 1), (1, .int t)]) (st' := [.int 0, .ref 4, .int t, .int (σ 5 0), .int (σ 3 0), .int 0, .ref 5]) (S' := stt (up2 σ 1 4 ((σ 1 4) + t)) τ) (kc' := 0) (ks' := 0) rfl ⟨trivial, trivial, rfl, trivial, trivial⟩ ?_
  refine R_iald ca_7_40 (j := 0) rfl rfl (by omega) ?_
  refine R_seg sg_7_41 sk_7_41 (pc' := 46) (lv' := [(2, .int 0), (0, .ref 1), (1, .int t)]) (st' := [.int (if (σ 5 0) + (t * (σ 4 0)) < σ 3 0 then (σ 5 0) + (t * (σ 4 0)) else σ 3 0), .int 0, .ref 5]) (S' := stt (up2 σ 1 4 ((σ 1 4) + t)) τ) (kc' := 0) (ks' := 0) rfl ⟨trivial, trivial, (Nat.le_of_ble_eq_true rfl), trivial⟩ ?_
  refine R_iast ca_7_46 (j := 0) rfl rfl (by omega) ?_
  refine R_seg sg_7_47 sk_7_47 (pc' := 50) (lv' := [(2, .int 1), (0, .ref 1), (1, .int t)]) (st' := []) (S' := stt (up2 (up2 σ 1 4 ((σ 1 4) + t)) 5 0 (if (σ 5 0) + (t * (σ 4 0)) < σ 3 0 then (σ 5 0) + (t * (σ 4 0)) else σ 3 0)) τ) (kc' := 0) (ks' := 0) rfl ⟨(by decide), trivial⟩ ?_
  refine R_goto ck_7_50 ?_
  refine R_seg sg_7_12 sk_7_12 (pc' := 14) (lv' := [(2, .int 1), (0, .ref 1), (1, .int t)]) (st' := [.int 4, .int 1]) (S' := stt (up2 (up2 σ 1 4 ((σ 1 4) + t)) 5 0 (if (σ 5 0) + (t * (σ 4 0)) < σ 3 0 then (σ 5 0) + (t * (σ 4 0)) else σ 3 0)) τ) (kc' := 0) (ks' := 0) rfl ⟨trivial, trivial, trivial⟩ ?_
  refine R_icmp ck_7_14 (fun c => absurd c (show ¬ (4 : Int32) ≤ 1 from by decide)) (fun _ => ?_)
  refine R_seg sg_7_17 sk_7_17 (pc' := 27) (lv' := [(2, .int 1), (0, .ref 1), (1, .int t)]) (st' := [.int 1, .ref 3, .int 1, .ref 5]) (S' := stt (up2 (up2 σ 1 4 ((σ 1 4) + t)) 5 0 (if (σ 5 0) + (t * (σ 4 0)) < σ 3 0 then (σ 5 0) + (t * (σ 4 0)) else σ 3 0)) τ) (kc' := 0) (ks' := 0) rfl ⟨trivial, rfl, trivial, trivial, rfl, trivial, trivial⟩ ?_
  refine R_iald ca_7_27 (j := 1) rfl rfl (by omega) ?_
  refine R_seg sg_7_28 sk_7_28 (pc' := 33) (lv' := [(2, .int 1), (0, .ref 1), (1, .int t)]) (st' := [.int 1, .ref 5, .int (σ 3 1), .int 1, .ref 5]) (S' := stt (up2 (up2 σ 1 4 ((σ 1 4) + t)) 5 0 (if (σ 5 0) + (t * (σ 4 0)) < σ 3 0 then (σ 5 0) + (t * (σ 4 0)) else σ 3 0)) τ) (kc' := 0) (ks' := 0) rfl ⟨trivial, rfl, trivial, trivial⟩ ?_
  refine R_iald ca_7_33 (j := 1) rfl rfl (by omega) ?_
  refine R_seg sg_7_34 sk_7_34 (pc' := 40) (lv' := [(2, .int 1), (0, .ref 1), (1, .int t)]) (st' := [.int 1, .ref 4, .int t, .int (σ 5 1), .int (σ 3 1), .int 1, .ref 5]) (S' := stt (up2 (up2 σ 1 4 ((σ 1 4) + t)) 5 0 (if (σ 5 0) + (t * (σ 4 0)) < σ 3 0 then (σ 5 0) + (t * (σ 4 0)) else σ 3 0)) τ) (kc' := 0) (ks' := 0) rfl ⟨trivial, trivial, rfl, trivial, trivial⟩ ?_
  refine R_iald ca_7_40 (j := 1) rfl rfl (by omega) ?_
  refine R_seg sg_7_41 sk_7_41 (pc' := 46) (lv' := [(2, .int 1), (0, .ref 1), (1, .int t)]) (st' := [.int (if (σ 5 1) + (t * (σ 4 1)) < σ 3 1 then (σ 5 1) + (t * (σ 4 1)) else σ 3 1), .int 1, .ref 5]) (S' := stt (up2 (up2 σ 1 4 ((σ 1 4) + t)) 5 0 (if (σ 5 0) + (t * (σ 4 0)) < σ 3 0 then (σ 5 0) + (t * (σ 4 0)) else σ 3 0)) τ) (kc' := 0) (ks' := 0) rfl ⟨trivial, trivial, (Nat.le_of_ble_eq_true rfl), trivial⟩ ?_
  refine R_iast ca_7_46 (j := 1) rfl rfl (by omega) ?_
  refine R_seg sg_7_47 sk_7_47 (pc' := 50) (lv' := [(2, .int 2), (0, .ref 1), (1, .int t)]) (st' := []) (S' := stt (up2 (up2 (up2 σ 1 4 ((σ 1 4) + t)) 5 0 (if (σ 5 0) + (t * (σ 4 0)) < σ 3 0 then (σ 5 0) + (t * (σ 4 0)) else σ 3 0)) 5 1 (if (σ 5 1) + (t * (σ 4 1)) < σ 3 1 then (σ 5 1) + (t * (σ 4 1)) else σ 3 1)) τ) (kc' := 0) (ks' := 0) rfl ⟨(by decide), trivial⟩ ?_
  refine R_goto ck_7_50 ?_
  refine R_seg sg_7_12 sk_7_12 (pc' := 14) (lv' := [(2, .int 2), (0, .ref 1), (1, .int t)]) (st' := [.int 4, .int 2]) (S' := stt (up2 (up2 (up2 σ 1 4 ((σ 1 4) + t)) 5 0 (if (σ 5 0) + (t * (σ 4 0)) < σ 3 0 then (σ 5 0) + (t * (σ 4 0)) else σ 3 0)) 5 1 (if (σ 5 1) + (t * (σ 4 1)) < σ 3 1 then (σ 5 1) + (t * (σ 4 1)) else σ 3 1)) τ) (kc' := 0) (ks' := 0) rfl ⟨trivial, trivial, trivial⟩ ?_
  refine R_icmp ck_7_14 (fun c => absurd c (show ¬ (4 : Int32) ≤ 2 from by decide)) (fun _ => ?_)
  refine R_seg sg_7_17 sk_7_17 (pc' := 27) (lv' := [(2, .int 2), (0, .ref 1), (1, .int t)]) (st' := [.int 2, .ref 3, .int 2, .ref 5]) (S' := stt (up2 (up2 (up2 σ 1 4 ((σ 1 4) + t)) 5 0 (if (σ 5 0) + (t * (σ 4 0)) < σ 3 0 then (σ 5 0) + (t * (σ 4 0)) else σ 3 0)) 5 1 (if (σ 5 1) + (t * (σ 4 1)) < σ 3 1 then (σ 5 1) + (t * (σ 4 1)) else σ 3 1)) τ) (kc' := 0) (ks' := 0) rfl ⟨trivial, rfl, trivial, trivial, rfl, trivial, trivial⟩ ?_
  refine R_iald ca_7_27 (j := 2) rfl rfl (by omega) ?_
  refine R_seg sg_7_28 sk_7_28 (pc' := 33) (lv' := [(2, .int 2), (0, .ref 1), (1, .int t)]) (st' := [.int 2, .ref 5, .int (σ 3 2), .int 2, .ref 5]) (S' := stt (up2 (up2 (up2 σ 1 4 ((σ 1 4) + t)) 5 0 (if (σ 5 0) + (t * (σ 4 0)) < σ 3 0 then (σ 5 0) + (t * (σ 4 0)) else σ 3 0)) 5 1 (if (σ 5 1) + (t * (σ 4 1)) < σ 3 1 then (σ 5 1) + (t * (σ 4 1)) else σ 3 1)) τ) (kc' := 0) (ks' := 0) rfl ⟨trivial, rfl, trivial, trivial⟩ ?_
  refine R_iald ca_7_33 (j := 2) rfl rfl (by omega) ?_
  refine R_seg sg_7_34 sk_7_34 (pc' := 40) (lv' := [(2, .int 2), (0, .ref 1), (1, .int t)]) (st' := [.int 2, .ref 4, .int t, .int (σ 5 2), .int (σ 3 2), .int 2, .ref 5]) (S' := stt (up2 (up2 (up2 σ 1 4 ((σ 1 4) + t)) 5 0 (if (σ 5 0) + (t * (σ 4 0)) < σ 3 0 then (σ 5 0) + (t * (σ 4 0)) else σ 3 0)) 5 1 (if (σ 5 1) + (t * (σ 4 1)) < σ 3 1 then (σ 5 1) + (t * (σ 4 1)) else σ 3 1)) τ) (kc' := 0) (ks' := 0) rfl ⟨trivial, trivial, rfl, trivial, trivial⟩ ?_
  refine R_iald ca_7_40 (j := 2) rfl rfl (by omega) ?_
  refine R_seg sg_7_41 sk_7_41 (pc' := 46) (lv' := [(2, .int 2), (0, .ref 1), (1, .int t)]) (st' := [.int (if (σ 5 2) + (t * (σ 4 2)) < σ 3 2 then (σ 5 2) + (t * (σ 4 2)) else σ 3 2), .int 2, .ref 5]) (S' := stt (up2 (up2 (up2 σ 1 4 ((σ 1 4) + t)) 5 0 (if (σ 5 0) + (t * (σ 4 0)) < σ 3 0 then (σ 5 0) + (t * (σ 4 0)) else σ 3 0)) 5 1 (if (σ 5 1) + (t * (σ 4 1)) < σ 3 1 then (σ 5 1) + (t * (σ 4 1)) else σ 3 1)) τ) (kc' := 0) (ks' := 0) rfl ⟨trivial, trivial, (Nat.le_of_ble_eq_true rfl), trivial⟩ ?_
  refine R_iast ca_7_46 (j := 2) rfl rfl (by omega) ?_
  refine R_seg sg_7_47 sk_7_47 (pc' := 50) (lv' := [(2, .int 3), (0, .ref 1), (1, .int t)]) (st' := []) (S' := stt (up2 (up2 (up2 (up2 σ 1 4 ((σ 1 4) + t)) 5 0 (if (σ 5 0) + (t * (σ 4 0)) < σ 3 0 then (σ 5 0) + (t * (σ 4 0)) else σ 3 0)) 5 1 (if (σ 5 1) + (t * (σ 4 1)) < σ 3 1 then (σ 5 1) + (t * (σ 4 1)) else σ 3 1)) 5 2 (if (σ 5 2) + (t * (σ 4 2)) < σ 3 2 then (σ 5 2) + (t * (σ 4 2)) else σ 3 2)) τ) (kc' := 0) (ks' := 0) rfl ⟨(by decide), trivial⟩ ?_
  refine R_goto ck_7_50 ?_
  refine R_seg sg_7_12 sk_7_12 (pc' := 14) (lv' := [(2, .int 3), (0, .ref 1), (1, .int t)]) (st' := [.int 4, .int 3]) (S' := stt (up2 (up2 (up2 (up2 σ 1 4 ((σ 1 4) + t)) 5 0 (if (σ 5 0) + (t * (σ 4 0)) < σ 3 0 then (σ 5 0) + (t * (σ 4 0)) else σ 3 0)) 5 1 (if (σ 5 1) + (t * (σ 4 1)) < σ 3 1 then (σ 5 1) + (t * (σ 4 1)) else σ 3 1)) 5 2 (if (σ 5 2) + (t * (σ 4 2)) < σ 3 2 then (σ 5 2) + (t * (σ 4 2)) else σ 3 2)) τ) (kc' := 0) (ks' := 0) rfl ⟨trivial, trivial, trivial⟩ ?_
  refine R_icmp ck_7_14 (fun c => absurd c (show ¬ (4 : Int32) ≤ 3 from by decide)) (fun _ => ?_)
  refine R_seg sg_7_17 sk_7_17 (pc' := 27) (lv' := [(2, .int 3), (0, .ref 1), (1, .int t)]) (st' := [.int 3, .ref 3, .int 3, .ref 5]) (S' := stt (up2 (up2 (up2 (up2 σ 1 4 ((σ 1 4) + t)) 5 0 (if (σ 5 0) + (t * (σ 4 0)) < σ 3 0 then (σ 5 0) + (t * (σ 4 0)) else σ 3 0)) 5 1 (if (σ 5 1) + (t * (σ 4 1)) < σ 3 1 then (σ 5 1) + (t * (σ 4 1)) else σ 3 1)) 5 2 (if (σ 5 2) + (t * (σ 4 2)) < σ 3 2 then (σ 5 2) + (t * (σ 4 2)) else σ 3 2)) τ) (kc' := 0) (ks' := 0) rfl ⟨trivial, rfl, trivial, trivial, rfl, trivial, trivial⟩ ?_
  refine R_iald ca_7_27 (j := 3) rfl rfl (by omega) ?_
  refine R_seg sg_7_28 sk_7_28 (pc' := 33) (lv' := [(2, .int 3), (0, .ref 1), (1, .int t)]) (st' := [.int 3, .ref 5, .int (σ 3 3), .int 3, .ref 5]) (S' := stt (up2 (up2 (up2 (up2 σ 1 4 ((σ 1 4) + t)) 5 0 (if (σ 5 0) + (t * (σ 4 0)) < σ 3 0 then (σ 5 0) + (t * (σ 4 0)) else σ 3 0)) 5 1 (if (σ 5 1) + (t * (σ 4 1)) < σ 3 1 then (σ 5 1) + (t * (σ 4 1)) else σ 3 1)) 5 2 (if (σ 5 2) + (t * (σ 4 2)) < σ 3 2 then (σ 5 2) + (t * (σ 4 2)) else σ 3 2)) τ) (kc' := 0) (ks' := 0) rfl ⟨trivial, rfl, trivial, trivial⟩ ?_
  refine R_iald ca_7_33 (j := 3) rfl rfl (by omega) ?_
  refine R_seg sg_7_34 sk_7_34 (pc' := 40) (lv' := [(2, .int 3), (0, .ref 1), (1, .int t)]) (st' := [.int 3, .ref 4, .int t, .int (σ 5 3), .int (σ 3 3), .int 3, .ref 5]) (S' := stt (up2 (up2 (up2 (up2 σ 1 4 ((σ 1 4) + t)) 5 0 (if (σ 5 0) + (t * (σ 4 0)) < σ 3 0 then (σ 5 0) + (t * (σ 4 0)) else σ 3 0)) 5 1 (if (σ 5 1) + (t * (σ 4 1)) < σ 3 1 then (σ 5 1) + (t * (σ 4 1)) else σ 3 1)) 5 2 (if (σ 5 2) + (t * (σ 4 2)) < σ 3 2 then (σ 5 2) + (t * (σ 4 2)) else σ 3 2)) τ) (kc' := 0) (ks' := 0) rfl ⟨trivial, trivial, rfl, trivial, trivial⟩ ?_
  refine R_iald ca_7_40 (j := 3) rfl rfl (by omega) ?_
  refine R_seg sg_7_41 sk_7_41 (pc' := 46) (lv' := [(2, .int 3), (0, .ref 1), (1, .int t)]) (st' := [.int (if (σ 5 3) + (t * (σ 4 3)) < σ 3 3 then (σ 5 3) + (t * (σ 4 3)) else σ 3 3), .int 3, .ref 5]) (S' := stt (up2 (up2 (up2 (up2 σ 1 4 ((σ 1 4) + t)) 5 0 (if (σ 5 0) + (t * (σ 4 0)) < σ 3 0 then (σ 5 0) + (t * (σ 4 0)) else σ 3 0)) 5 1 (if (σ 5 1) + (t * (σ 4 1)) < σ 3 1 then (σ 5 1) + (t * (σ 4 1)) else σ 3 1)) 5 2 (if (σ 5 2) + (t * (σ 4 2)) < σ 3 2 then (σ 5 2) + (t * (σ 4 2)) else σ 3 2)) τ) (kc' := 0) (ks' := 0) rfl ⟨trivial, trivial, (Nat.le_of_ble_eq_true rfl), trivial⟩ ?_
  refine R_iast ca_7_46 (j := 3) rfl rfl (by omega) ?_
  refine R_seg sg_7_47 sk_7_47 (pc' := 50) (lv' := [(2, .int 4), (0, .ref 1), (1, .int t)]) (st' := []) (S' := stt (up2 (up2 (up2 (up2 (up2 σ 1 4 ((σ 1 4) + t)) 5 0 (if (σ 5 0) + (t * (σ 4 0)) < σ 3 0 then (σ 5 0) + (t * (σ 4 0)) else σ 3 0)) 5 1 (if (σ 5 1) + (t * (σ 4 1)) < σ 3 1 then (σ 5 1) + (t * (σ 4 1)) else σ 3 1)) 5 2 (if (σ 5 2) + (t * (σ 4 2)) < σ 3 2 then (σ 5 2) + (t * (σ 4 2)) else σ 3 2)) 5 3 (if (σ 5 3) + (t * (σ 4 3)) < σ 3 3 then (σ 5 3) + (t * (σ 4 3)) else σ 3 3)) τ) (kc' := 0) (ks' := 0) rfl ⟨(by decide), trivial⟩ ?_
  refine R_goto ck_7_50 ?_
  refine R_seg sg_7_12 sk_7_12 (pc' := 14) (lv' := [(2, .int 4), (0, .ref 1), (1, .int t)]) (st' := [.int 4, .int 4]) (S' := stt (up2 (up2 (up2 (up2 (up2 σ 1 4 ((σ 1 4) + t)) 5 0 (if (σ 5 0) + (t * (σ 4 0)) < σ 3 0 then (σ 5 0) + (t * (σ 4 0)) else σ 3 0)) 5 1 (if (σ 5 1) + (t * (σ 4 1)) < σ 3 1 then (σ 5 1) + (t * (σ 4 1)) else σ 3 1)) 5 2 (if (σ 5 2) + (t * (σ 4 2)) < σ 3 2 then (σ 5 2) + (t * (σ 4 2)) else σ 3 2)) 5 3 (if (σ 5 3) + (t * (σ 4 3)) < σ 3 3 then (σ 5 3) + (t * (σ 4 3)) else σ 3 3)) τ) (kc' := 0) (ks' := 0) rfl ⟨trivial, trivial, trivial⟩ ?_
  refine R_icmp ck_7_14 (fun _ => ?_) (fun c => absurd (show (4 : Int32) ≤ 4 from by decide) c)
  refine R_ret ck_7_53 rfl ?_
  exact hp
set_option maxRecDepth 20000 in
theorem x_68 {d : Nat} {σ : Nat → Nat → Int32} {τ : Nat → Nat → Int64} {x1 : Int32} {n : Nat} (hn : σ 1 4 = nI n) (hn2 : n ≤ 100000) {Post : Option Value → Sto → Prop} (hs : ∀ t : Nat, 1 ≤ t → t ≤ 1000 → n + t ≤ 100000 → x1 = nI t → Post (some (.int (c_goBy σ (nI t) 1 4))) (stt (c_goBy σ (nI t)) τ)) (hf : ¬ (rg x1 1 1000 ∧ ∀ t, x1 = nI t → n + t ≤ 100000) → Post (some (.int (-1))) (stt σ τ)) : Ex (d + 2) 68 [.ref 0, .int x1] (stt σ τ) 0 0 Post := by
  refine en_68 (Nat.le_of_ble_eq_true rfl) ?_
  show RU_68 (d + 1) (0, 0) Post 0 ([(0, .ref 0), (1, .int x1)]) ([]) (stt σ τ) 0 0
  refine R_seg sg_68_0 sk_68_0 (pc' := 5) (lv' := [(0, .ref 0), (1, .int x1)]) (st' := [.int 1000, .int 1, .int x1]) (S' := stt σ τ) (kc' := 0) (ks' := 0) rfl ⟨trivial, trivial, trivial, trivial⟩ ?_
  refine R_stat ck_68_5 (by decide) [.int x1, .int 1, .int 1000] 0 0 (r := []) rfl rfl (Nat.le_of_ble_eq_true rfl) (Nat.le_refl _) (Nat.le_refl _) ?_
  refine xn_57 (d := d) 1 1000 (by omega) (by omega) (fun t l_t u_t e_t => ?_) (fun n_t => ?_)
  · subst e_t
    show RU_68 (d + 1) (0, 0) Post 8 ([(0, .ref 0), (1, .int (nI t))]) ([.int 1]) (stt σ τ) 0 0
    refine R_if ck_68_8 (fun c => absurd c (show ¬ (1 : Int32) = 0 from by decide)) (fun _ => ?_)
    refine R_seg sg_68_11 sk_68_11 (pc' := 22) (lv' := [(0, .ref 0), (1, .int (nI t))]) (st' := [.int 100000, .int ((σ 1 4) + (nI t))]) (S' := stt σ τ) (kc' := 0) (ks' := 0) rfl ⟨trivial, rfl, rfl, trivial, trivial, trivial, trivial⟩ ?_
    rw [hn]
    rw [nI_add]
    refine R_icmp ck_68_22 (fun (c_22 : (nI (n + t)) ≤ 100000) => ?_) (fun (c_22 : ¬ (nI (n + t)) ≤ 100000) => ?_)
    · have c_22 : (n + t) ≤ 100000 := (nI_leI (a := (n + t)) (b := 100000) (by omega) (by omega)).mp c_22
      refine R_seg sg_68_27 sk_68_27 (pc' := 32) (lv' := [(0, .ref 0), (1, .int (nI t))]) (st' := [.int (nI t), .ref 1]) (S' := stt σ τ) (kc' := 0) (ks' := 0) rfl ⟨trivial, rfl, trivial, trivial⟩ ?_
      refine R_virt ck_68_32 1 [.int (nI t)] 0 0 (r := []) rfl rfl rfl (Nat.le_of_ble_eq_true rfl) (Nat.le_refl _) (Nat.le_refl _) ?_
      refine x_7 (d := d) ?_
      show RU_68 (d + 1) (0, 0) Post 35 ([(0, .ref 0), (1, .int (nI t))]) ([]) (stt (c_goBy σ (nI t)) τ) 0 0
      refine R_seg sg_68_35 sk_68_35 (pc' := 42) (lv' := [(0, .ref 0), (1, .int (nI t))]) (st' := [.int ((c_goBy σ (nI t)) 1 4)]) (S' := stt (c_goBy σ (nI t)) τ) (kc' := 0) (ks' := 0) rfl ⟨trivial, rfl, rfl, trivial⟩ ?_
      refine R_iret ck_68_42 rfl rfl ?_
      exact hs t (by omega) (by omega) (by omega) rfl
    · have c_22 : 100000 < (n + t) := Nat.not_le.mp (fun q => c_22 ((nI_leI (a := (n + t)) (b := 100000) (by omega) (by omega)).mpr q))
      refine R_seg sg_68_25 sk_68_25 (pc' := 26) (lv' := [(0, .ref 0), (1, .int (nI t))]) (st' := [.int (-1)]) (S' := stt σ τ) (kc' := 0) (ks' := 0) rfl ⟨trivial, trivial⟩ ?_
      refine R_iret ck_68_26 rfl rfl ?_
      first | exact hf (fun q => n_t q.1) | (refine hf (fun q => ?_); have q2 := q.2 t rfl; omega)
  · show RU_68 (d + 1) (0, 0) Post 8 ([(0, .ref 0), (1, .int x1)]) ([.int 0]) (stt σ τ) 0 0
    refine R_if ck_68_8 (fun _ => ?_) (fun c => absurd (show (0 : Int32) = 0 from by decide) c)
    refine R_seg sg_68_25 sk_68_25 (pc' := 26) (lv' := [(0, .ref 0), (1, .int x1)]) (st' := [.int (-1)]) (S' := stt σ τ) (kc' := 0) (ks' := 0) rfl ⟨trivial, trivial⟩ ?_
    refine R_iret ck_68_26 rfl rfl ?_
    first | exact hf (fun q => n_t q.1) | (refine hf (fun q => ?_); have q2 := q.2 t rfl; omega)
def c_word (σ : Nat → Nat → Int32) (n : Nat) (w : Int32) : Nat → Nat → Int32 := up2 (up2 (up2 (up2 (up2 (up2 (up2 (up2 σ 31 n ((w.toUInt32 >>> ((24 : Int32).toUInt32 &&& Int32.toUInt32 31)).toInt32 &&& 255)) 30 1 (nI (n + 1))) 31 (n + 1) ((w.toUInt32 >>> ((16 : Int32).toUInt32 &&& Int32.toUInt32 31)).toInt32 &&& 255)) 30 1 (nI (n + 2))) 31 (n + 2) ((w.toUInt32 >>> ((8 : Int32).toUInt32 &&& Int32.toUInt32 31)).toInt32 &&& 255)) 30 1 (nI (n + 3))) 31 (n + 3) ((w.toUInt32 >>> ((0 : Int32).toUInt32 &&& Int32.toUInt32 31)).toInt32 &&& 255)) 30 1 (nI (n + 4))
set_option maxRecDepth 20000 in
theorem x_44 {d : Nat} {σ : Nat → Nat → Int32} {τ : Nat → Nat → Int64} {w : Int32} {n : Nat} (hn : σ 30 1 = nI n) (hn2 : n + 4 ≤ 200) {Post : Option Value → Sto → Prop} (hp : Post none (stt (c_word σ n w) τ)) : Ex (d + 1) 44 [.ref 30, .int w] (stt σ τ) 0 0 Post := by
  refine en_44 (Nat.le_of_ble_eq_true rfl) ?_
  show RU_44 d (0, 0) Post 0 ([(0, .ref 30), (1, .int w)]) ([]) (stt σ τ) 0 0
  refine R_seg sg_44_0 sk_44_0 (pc' := 3) (lv' := [(2, .int 24), (0, .ref 30), (1, .int w)]) (st' := []) (S' := stt σ τ) (kc' := 0) (ks' := 0) rfl ⟨trivial, (by decide), trivial⟩ ?_
  refine R_seg sg_44_3 sk_44_3 (pc' := 4) (lv' := [(2, .int 24), (0, .ref 30), (1, .int w)]) (st' := [.int 24]) (S' := stt σ τ) (kc' := 0) (ks' := 0) rfl ⟨trivial, trivial⟩ ?_
  refine R_if ck_44_4 (fun c => absurd c (show ¬ (24 : Int32) < 0 from by decide)) (fun _ => ?_)
  refine R_seg sg_44_7 sk_44_7 (pc' := 14) (lv' := [(2, .int 24), (0, .ref 30), (1, .int w)]) (st' := [.int 200, .int (σ 30 1)]) (S' := stt σ τ) (kc' := 0) (ks' := 0) rfl ⟨trivial, rfl, trivial, trivial⟩ ?_
  rw [hn]
  refine R_icmp ck_44_14 (fun (c_14 : 200 ≤ (nI n)) => ?_) (fun (c_14 : ¬ 200 ≤ (nI n)) => ?_)
  · have c_14 : 200 ≤ n := (nI_leI (a := 200) (b := n) (by omega) (by omega)).mp c_14
    omega
  · have c_14 : n < 200 := Nat.not_le.mp (fun q => c_14 ((nI_leI (a := 200) (b := n) (by omega) (by omega)).mpr q))
    refine R_seg sg_44_17 sk_44_17 (pc' := 32) (lv' := [(2, .int 24), (0, .ref 30), (1, .int w)]) (st' := [.int (((w.toUInt32 >>> ((24 : Int32).toUInt32 &&& Int32.toUInt32 31)).toInt32) &&& 255), .int (σ 30 1), .ref 31]) (S' := stt σ τ) (kc' := 0) (ks' := 0) rfl ⟨trivial, rfl, trivial, rfl, trivial, trivial, trivial, trivial, trivial, trivial⟩ ?_
    rw [hn]
    refine R_iast ca_44_32 (j := n) rfl rfl (by omega) ?_
    refine R_seg sg_44_33 sk_44_33 (pc' := 46) (lv' := [(2, .int 16), (0, .ref 30), (1, .int w)]) (st' := []) (S' := stt (up2 (up2 σ 31 n (((w.toUInt32 >>> ((24 : Int32).toUInt32 &&& Int32.toUInt32 31)).toInt32) &&& 255)) 30 1 ((σ 30 1) + 1)) τ) (kc' := 0) (ks' := 0) rfl ⟨trivial, rfl, rfl, trivial, trivial, ⟨rfl, ⟨rfl, rfl⟩⟩, (by decide), trivial⟩ ?_
    refine R_goto ck_44_46 ?_
    refine R_seg sg_44_3 sk_44_3 (pc' := 4) (lv' := [(2, .int 16), (0, .ref 30), (1, .int w)]) (st' := [.int 16]) (S' := stt (up2 (up2 σ 31 n (((w.toUInt32 >>> ((24 : Int32).toUInt32 &&& Int32.toUInt32 31)).toInt32) &&& 255)) 30 1 ((σ 30 1) + 1)) τ) (kc' := 0) (ks' := 0) rfl ⟨trivial, trivial⟩ ?_
    refine R_if ck_44_4 (fun c => absurd c (show ¬ (16 : Int32) < 0 from by decide)) (fun _ => ?_)
    refine R_seg sg_44_7 sk_44_7 (pc' := 14) (lv' := [(2, .int 16), (0, .ref 30), (1, .int w)]) (st' := [.int 200, .int ((σ 30 1) + 1)]) (S' := stt (up2 (up2 σ 31 n (((w.toUInt32 >>> ((24 : Int32).toUInt32 &&& Int32.toUInt32 31)).toInt32) &&& 255)) 30 1 ((σ 30 1) + 1)) τ) (kc' := 0) (ks' := 0) rfl ⟨trivial, rfl, trivial, trivial⟩ ?_
    rw [hn]
    rw [show (nI n) + 1 = nI (n + 1) from nI_1 n]
    refine R_icmp ck_44_14 (fun (c_14 : 200 ≤ (nI (n + 1))) => ?_) (fun (c_14 : ¬ 200 ≤ (nI (n + 1))) => ?_)
    · have c_14 : 200 ≤ (n + 1) := (nI_leI (a := 200) (b := (n + 1)) (by omega) (by omega)).mp c_14
      omega
    · have c_14 : (n + 1) < 200 := Nat.not_le.mp (fun q => c_14 ((nI_leI (a := 200) (b := (n + 1)) (by omega) (by omega)).mpr q))
      refine R_seg sg_44_17 sk_44_17 (pc' := 32) (lv' := [(2, .int 16), (0, .ref 30), (1, .int w)]) (st' := [.int (((w.toUInt32 >>> ((16 : Int32).toUInt32 &&& Int32.toUInt32 31)).toInt32) &&& 255), .int (nI (n + 1)), .ref 31]) (S' := stt (up2 (up2 σ 31 n (((w.toUInt32 >>> ((24 : Int32).toUInt32 &&& Int32.toUInt32 31)).toInt32) &&& 255)) 30 1 (nI (n + 1))) τ) (kc' := 0) (ks' := 0) rfl ⟨trivial, rfl, trivial, rfl, trivial, trivial, trivial, trivial, trivial, trivial⟩ ?_
      refine R_iast ca_44_32 (j := n + 1) rfl rfl (by omega) ?_
      refine R_seg sg_44_33 sk_44_33 (pc' := 46) (lv' := [(2, .int 8), (0, .ref 30), (1, .int w)]) (st' := []) (S' := stt (up2 (up2 (up2 (up2 σ 31 n (((w.toUInt32 >>> ((24 : Int32).toUInt32 &&& Int32.toUInt32 31)).toInt32) &&& 255)) 30 1 (nI (n + 1))) 31 (n + 1) (((w.toUInt32 >>> ((16 : Int32).toUInt32 &&& Int32.toUInt32 31)).toInt32) &&& 255)) 30 1 ((nI (n + 1)) + 1)) τ) (kc' := 0) (ks' := 0) rfl ⟨trivial, rfl, rfl, trivial, trivial, ⟨rfl, ⟨rfl, rfl⟩⟩, (by decide), trivial⟩ ?_
      refine R_goto ck_44_46 ?_
      refine R_seg sg_44_3 sk_44_3 (pc' := 4) (lv' := [(2, .int 8), (0, .ref 30), (1, .int w)]) (st' := [.int 8]) (S' := stt (up2 (up2 (up2 (up2 σ 31 n (((w.toUInt32 >>> ((24 : Int32).toUInt32 &&& Int32.toUInt32 31)).toInt32) &&& 255)) 30 1 (nI (n + 1))) 31 (n + 1) (((w.toUInt32 >>> ((16 : Int32).toUInt32 &&& Int32.toUInt32 31)).toInt32) &&& 255)) 30 1 ((nI (n + 1)) + 1)) τ) (kc' := 0) (ks' := 0) rfl ⟨trivial, trivial⟩ ?_
      refine R_if ck_44_4 (fun c => absurd c (show ¬ (8 : Int32) < 0 from by decide)) (fun _ => ?_)
      refine R_seg sg_44_7 sk_44_7 (pc' := 14) (lv' := [(2, .int 8), (0, .ref 30), (1, .int w)]) (st' := [.int 200, .int ((nI (n + 1)) + 1)]) (S' := stt (up2 (up2 (up2 (up2 σ 31 n (((w.toUInt32 >>> ((24 : Int32).toUInt32 &&& Int32.toUInt32 31)).toInt32) &&& 255)) 30 1 (nI (n + 1))) 31 (n + 1) (((w.toUInt32 >>> ((16 : Int32).toUInt32 &&& Int32.toUInt32 31)).toInt32) &&& 255)) 30 1 ((nI (n + 1)) + 1)) τ) (kc' := 0) (ks' := 0) rfl ⟨trivial, rfl, trivial, trivial⟩ ?_
      rw [show (nI (n + 1)) + 1 = nI (n + 2) from nI_1 (n + 1)]
      refine R_icmp ck_44_14 (fun (c_14 : 200 ≤ (nI (n + 2))) => ?_) (fun (c_14 : ¬ 200 ≤ (nI (n + 2))) => ?_)
      · have c_14 : 200 ≤ (n + 2) := (nI_leI (a := 200) (b := (n + 2)) (by omega) (by omega)).mp c_14
        omega
      · have c_14 : (n + 2) < 200 := Nat.not_le.mp (fun q => c_14 ((nI_leI (a := 200) (b := (n + 2)) (by omega) (by omega)).mpr q))
        refine R_seg sg_44_17 sk_44_17 (pc' := 32) (lv' := [(2, .int 8), (0, .ref 30), (1, .int w)]) (st' := [.int (((w.toUInt32 >>> ((8 : Int32).toUInt32 &&& Int32.toUInt32 31)).toInt32) &&& 255), .int (nI (n + 2)), .ref 31]) (S' := stt (up2 (up2 (up2 (up2 σ 31 n (((w.toUInt32 >>> ((24 : Int32).toUInt32 &&& Int32.toUInt32 31)).toInt32) &&& 255)) 30 1 (nI (n + 1))) 31 (n + 1) (((w.toUInt32 >>> ((16 : Int32).toUInt32 &&& Int32.toUInt32 31)).toInt32) &&& 255)) 30 1 (nI (n + 2))) τ) (kc' := 0) (ks' := 0) rfl ⟨trivial, rfl, trivial, rfl, trivial, trivial, trivial, trivial, trivial, trivial⟩ ?_
        refine R_iast ca_44_32 (j := n + 2) rfl rfl (by omega) ?_
        refine R_seg sg_44_33 sk_44_33 (pc' := 46) (lv' := [(2, .int 0), (0, .ref 30), (1, .int w)]) (st' := []) (S' := stt (up2 (up2 (up2 (up2 (up2 (up2 σ 31 n (((w.toUInt32 >>> ((24 : Int32).toUInt32 &&& Int32.toUInt32 31)).toInt32) &&& 255)) 30 1 (nI (n + 1))) 31 (n + 1) (((w.toUInt32 >>> ((16 : Int32).toUInt32 &&& Int32.toUInt32 31)).toInt32) &&& 255)) 30 1 (nI (n + 2))) 31 (n + 2) (((w.toUInt32 >>> ((8 : Int32).toUInt32 &&& Int32.toUInt32 31)).toInt32) &&& 255)) 30 1 ((nI (n + 2)) + 1)) τ) (kc' := 0) (ks' := 0) rfl ⟨trivial, rfl, rfl, trivial, trivial, ⟨rfl, ⟨rfl, rfl⟩⟩, (by decide), trivial⟩ ?_
        refine R_goto ck_44_46 ?_
        refine R_seg sg_44_3 sk_44_3 (pc' := 4) (lv' := [(2, .int 0), (0, .ref 30), (1, .int w)]) (st' := [.int 0]) (S' := stt (up2 (up2 (up2 (up2 (up2 (up2 σ 31 n (((w.toUInt32 >>> ((24 : Int32).toUInt32 &&& Int32.toUInt32 31)).toInt32) &&& 255)) 30 1 (nI (n + 1))) 31 (n + 1) (((w.toUInt32 >>> ((16 : Int32).toUInt32 &&& Int32.toUInt32 31)).toInt32) &&& 255)) 30 1 (nI (n + 2))) 31 (n + 2) (((w.toUInt32 >>> ((8 : Int32).toUInt32 &&& Int32.toUInt32 31)).toInt32) &&& 255)) 30 1 ((nI (n + 2)) + 1)) τ) (kc' := 0) (ks' := 0) rfl ⟨trivial, trivial⟩ ?_
        refine R_if ck_44_4 (fun c => absurd c (show ¬ (0 : Int32) < 0 from by decide)) (fun _ => ?_)
        refine R_seg sg_44_7 sk_44_7 (pc' := 14) (lv' := [(2, .int 0), (0, .ref 30), (1, .int w)]) (st' := [.int 200, .int ((nI (n + 2)) + 1)]) (S' := stt (up2 (up2 (up2 (up2 (up2 (up2 σ 31 n (((w.toUInt32 >>> ((24 : Int32).toUInt32 &&& Int32.toUInt32 31)).toInt32) &&& 255)) 30 1 (nI (n + 1))) 31 (n + 1) (((w.toUInt32 >>> ((16 : Int32).toUInt32 &&& Int32.toUInt32 31)).toInt32) &&& 255)) 30 1 (nI (n + 2))) 31 (n + 2) (((w.toUInt32 >>> ((8 : Int32).toUInt32 &&& Int32.toUInt32 31)).toInt32) &&& 255)) 30 1 ((nI (n + 2)) + 1)) τ) (kc' := 0) (ks' := 0) rfl ⟨trivial, rfl, trivial, trivial⟩ ?_
        rw [show (nI (n + 2)) + 1 = nI (n + 3) from nI_1 (n + 2)]
        refine R_icmp ck_44_14 (fun (c_14 : 200 ≤ (nI (n + 3))) => ?_) (fun (c_14 : ¬ 200 ≤ (nI (n + 3))) => ?_)
        · have c_14 : 200 ≤ (n + 3) := (nI_leI (a := 200) (b := (n + 3)) (by omega) (by omega)).mp c_14
          omega
        · have c_14 : (n + 3) < 200 := Nat.not_le.mp (fun q => c_14 ((nI_leI (a := 200) (b := (n + 3)) (by omega) (by omega)).mpr q))
          refine R_seg sg_44_17 sk_44_17 (pc' := 32) (lv' := [(2, .int 0), (0, .ref 30), (1, .int w)]) (st' := [.int (((w.toUInt32 >>> ((0 : Int32).toUInt32 &&& Int32.toUInt32 31)).toInt32) &&& 255), .int (nI (n + 3)), .ref 31]) (S' := stt (up2 (up2 (up2 (up2 (up2 (up2 σ 31 n (((w.toUInt32 >>> ((24 : Int32).toUInt32 &&& Int32.toUInt32 31)).toInt32) &&& 255)) 30 1 (nI (n + 1))) 31 (n + 1) (((w.toUInt32 >>> ((16 : Int32).toUInt32 &&& Int32.toUInt32 31)).toInt32) &&& 255)) 30 1 (nI (n + 2))) 31 (n + 2) (((w.toUInt32 >>> ((8 : Int32).toUInt32 &&& Int32.toUInt32 31)).toInt32) &&& 255)) 30 1 (nI (n + 3))) τ) (kc' := 0) (ks' := 0) rfl ⟨trivial, rfl, trivial, rfl, trivial, trivial, trivial, trivial, trivial, trivial⟩ ?_
          refine R_iast ca_44_32 (j := n + 3) rfl rfl (by omega) ?_
          refine R_seg sg_44_33 sk_44_33 (pc' := 46) (lv' := [(2, .int (-8)), (0, .ref 30), (1, .int w)]) (st' := []) (S' := stt (up2 (up2 (up2 (up2 (up2 (up2 (up2 (up2 σ 31 n (((w.toUInt32 >>> ((24 : Int32).toUInt32 &&& Int32.toUInt32 31)).toInt32) &&& 255)) 30 1 (nI (n + 1))) 31 (n + 1) (((w.toUInt32 >>> ((16 : Int32).toUInt32 &&& Int32.toUInt32 31)).toInt32) &&& 255)) 30 1 (nI (n + 2))) 31 (n + 2) (((w.toUInt32 >>> ((8 : Int32).toUInt32 &&& Int32.toUInt32 31)).toInt32) &&& 255)) 30 1 (nI (n + 3))) 31 (n + 3) (((w.toUInt32 >>> ((0 : Int32).toUInt32 &&& Int32.toUInt32 31)).toInt32) &&& 255)) 30 1 ((nI (n + 3)) + 1)) τ) (kc' := 0) (ks' := 0) rfl ⟨trivial, rfl, rfl, trivial, trivial, ⟨rfl, ⟨rfl, rfl⟩⟩, (by decide), trivial⟩ ?_
          refine R_goto ck_44_46 ?_
          refine R_seg sg_44_3 sk_44_3 (pc' := 4) (lv' := [(2, .int (-8)), (0, .ref 30), (1, .int w)]) (st' := [.int (-8)]) (S' := stt (up2 (up2 (up2 (up2 (up2 (up2 (up2 (up2 σ 31 n (((w.toUInt32 >>> ((24 : Int32).toUInt32 &&& Int32.toUInt32 31)).toInt32) &&& 255)) 30 1 (nI (n + 1))) 31 (n + 1) (((w.toUInt32 >>> ((16 : Int32).toUInt32 &&& Int32.toUInt32 31)).toInt32) &&& 255)) 30 1 (nI (n + 2))) 31 (n + 2) (((w.toUInt32 >>> ((8 : Int32).toUInt32 &&& Int32.toUInt32 31)).toInt32) &&& 255)) 30 1 (nI (n + 3))) 31 (n + 3) (((w.toUInt32 >>> ((0 : Int32).toUInt32 &&& Int32.toUInt32 31)).toInt32) &&& 255)) 30 1 ((nI (n + 3)) + 1)) τ) (kc' := 0) (ks' := 0) rfl ⟨trivial, trivial⟩ ?_
          refine R_if ck_44_4 (fun _ => ?_) (fun c => absurd (show (-8 : Int32) < 0 from by decide) c)
          refine R_ret ck_44_49 rfl ?_
          rw [show (nI (n + 3)) + 1 = nI (n + 4) from nI_1 (n + 3)]
          exact hp
