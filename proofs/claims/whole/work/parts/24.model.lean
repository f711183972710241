/-! ===== AnswerDoorModel: plain methods, second half ===== -/
def mg (b u f t : Int32) : Int32 := if lg_cmp (b.toInt64 + t.toInt64 * f.toInt64) u.toInt64 ≤ 0 then (b.toInt64 + t.toInt64 * f.toInt64).toInt32 else u
def m_goesOn (σ : Nat → Nat → Int32) (t : Int32) : Nat → Nat → Int32 := up2 (up2 (up2 (up2 (up2 σ 57 1 (σ 57 1 + t)) 85 0 (mg (σ 85 0) (σ 83 0) (σ 84 0) t)) 85 1 (mg (σ 85 1) (σ 83 1) (σ 84 1) t)) 85 2 (mg (σ 85 2) (σ 83 2) (σ 84 2) t)) 85 3 (mg (σ 85 3) (σ 83 3) (σ 84 3) t)
set_option maxRecDepth 20000 in
theorem x_92 {d : Nat} {σ : Nat → Nat → Int32} {τ : Nat → Nat → Int64} {t : Int32} {Post : Option Value → Sto → Prop} (hp : Post none (stt (m_goesOn σ t) τ)) : Ex (d + 1) 92 [.ref 57, .int t] (stt σ τ) 0 0 Post := by
  refine en_92 (Nat.le_of_ble_eq_true rfl) ?_
  show RU_92 d (0, 0) Post 0 ([(0, .ref 57), (1, .int t)]) ([]) (stt σ τ) 0 0
  refine R_seg sg_92_0 sk_92_0 (pc' := 12) (lv' := [(2, .int 0), (0, .ref 57), (1, .int t)]) (st' := []) (S' := stt (up2 σ 57 1 ((σ 57 1) + t)) τ) (kc' := 0) (ks' := 0) rfl ⟨trivial, rfl, rfl, trivial, trivial, ⟨rfl, ⟨rfl, rfl⟩⟩, trivial, (by decide), trivial⟩ ?_
  refine R_seg sg_92_12 sk_92_12 (pc' := 14) (lv' := [(2, .int 0), (0, .ref 57), (1, .int t)]) (st' := [.int 4, .int 0]) (S' := stt (up2 σ 57 1 ((σ 57 1) + t)) τ) (kc' := 0) (ks' := 0) rfl ⟨trivial, trivial, trivial⟩ ?_
  refine R_icmp ck_92_14 (fun c => absurd c (show ¬ (4 : Int32) ≤ 0 from by decide)) (fun _ => ?_)
  refine R_seg sg_92_17 sk_92_17 (pc' := 22) (lv' := [(2, .int 0), (0, .ref 57), (1, .int t)]) (st' := [.int 0, .ref 85]) (S' := stt (up2 σ 57 1 ((σ 57 1) + t)) τ) (kc' := 0) (ks' := 0) rfl ⟨trivial, rfl, trivial, trivial⟩ ?_
  refine R_iald ca_92_22 (j := 0) rfl rfl (by omega) ?_
  refine R_seg sg_92_23 sk_92_23 (pc' := 31) (lv' := [(2, .int 0), (0, .ref 57), (1, .int t)]) (st' := [.int 0, .ref 84, .long t.toInt64, .long ((σ 85 0).toInt64)]) (S' := stt (up2 σ 57 1 ((σ 57 1) + t)) τ) (kc' := 0) (ks' := 0) rfl ⟨trivial, trivial, trivial, trivial, rfl, trivial, trivial⟩ ?_
  refine R_iald ca_92_31 (j := 0) rfl rfl (by omega) ?_
  refine R_seg sg_92_32 sk_92_32 (pc' := 47) (lv' := [(3, .long (((σ 85 0).toInt64) + (t.toInt64 * ((σ 84 0).toInt64)))), (2, .int 0), (0, .ref 57), (1, .int t)]) (st' := [.int 0, .ref 83, .long (((σ 85 0).toInt64) + (t.toInt64 * ((σ 84 0).toInt64))), .int 0, .ref 85]) (S' := stt (up2 σ 57 1 ((σ 57 1) + t)) τ) (kc' := 0) (ks' := 0) rfl ⟨trivial, trivial, trivial, (by decide), trivial, rfl, trivial, trivial, trivial, rfl, trivial, trivial⟩ ?_
  refine R_iald ca_92_47 (j := 0) rfl rfl (by omega) ?_
  refine R_seg sg_92_48 sk_92_48 (pc' := 50) (lv' := [(3, .long (((σ 85 0).toInt64) + (t.toInt64 * ((σ 84 0).toInt64)))), (2, .int 0), (0, .ref 57), (1, .int t)]) (st' := [.int (lg_cmp (((σ 85 0).toInt64) + (t.toInt64 * ((σ 84 0).toInt64))) ((σ 83 0).toInt64)), .int 0, .ref 85]) (S' := stt (up2 σ 57 1 ((σ 57 1) + t)) τ) (kc' := 0) (ks' := 0) rfl ⟨trivial, trivial, trivial⟩ ?_
  suffices key : RU_92 d (0, 0) Post 64 ([(3, .long (((σ 85 0).toInt64) + (t.toInt64 * ((σ 84 0).toInt64)))), (2, .int 0), (0, .ref 57), (1, .int t)]) ([.int (mg (σ 85 0) (σ 83 0) (σ 84 0) t), .int 0, .ref 85]) (stt (up2 σ 57 1 ((σ 57 1) + t)) τ) 0 0 by
    refine R_if ck_92_50 (fun (c_50 : (lg_cmp (((σ 85 0).toInt64) + (t.toInt64 * ((σ 84 0).toInt64))) ((σ 83 0).toInt64)) ≤ 0) => ?_) (fun (c_50 : ¬ (lg_cmp (((σ 85 0).toInt64) + (t.toInt64 * ((σ 84 0).toInt64))) ((σ 83 0).toInt64)) ≤ 0) => ?_)
    · unfold mg at key; rw [if_pos c_50] at key
      refine R_seg sg_92_62 sk_92_62 (pc' := 64) (lv' := [(3, .long (((σ 85 0).toInt64) + (t.toInt64 * ((σ 84 0).toInt64)))), (2, .int 0), (0, .ref 57), (1, .int t)]) (st' := [.int ((((σ 85 0).toInt64) + (t.toInt64 * ((σ 84 0).toInt64))).toInt32), .int 0, .ref 85]) (S' := stt (up2 σ 57 1 ((σ 57 1) + t)) τ) (kc' := 0) (ks' := 0) rfl ⟨trivial, trivial, trivial⟩ ?_
      exact key
    · unfold mg at key; rw [if_neg c_50] at key
      refine R_seg sg_92_53 sk_92_53 (pc' := 58) (lv' := [(3, .long (((σ 85 0).toInt64) + (t.toInt64 * ((σ 84 0).toInt64)))), (2, .int 0), (0, .ref 57), (1, .int t)]) (st' := [.int 0, .ref 83, .int 0, .ref 85]) (S' := stt (up2 σ 57 1 ((σ 57 1) + t)) τ) (kc' := 0) (ks' := 0) rfl ⟨trivial, rfl, trivial, trivial⟩ ?_
      refine R_iald ca_92_58 (j := 0) rfl rfl (by omega) ?_
      refine R_goto ck_92_59 ?_
      exact key
  refine R_iast ca_92_64 (j := 0) rfl rfl (by omega) ?_
  refine R_seg sg_92_65 sk_92_65 (pc' := 68) (lv' := [(2, .int 1), (3, .long (((σ 85 0).toInt64) + (t.toInt64 * ((σ 84 0).toInt64)))), (0, .ref 57), (1, .int t)]) (st' := []) (S' := stt (up2 (up2 σ 57 1 ((σ 57 1) + t)) 85 0 (mg (σ 85 0) (σ 83 0) (σ 84 0) t)) τ) (kc' := 0) (ks' := 0) rfl ⟨(by decide), trivial⟩ ?_
  refine R_goto ck_92_68 ?_
  refine R_seg sg_92_12 sk_92_12 (pc' := 14) (lv' := [(2, .int 1), (3, .long (((σ 85 0).toInt64) + (t.toInt64 * ((σ 84 0).toInt64)))), (0, .ref 57), (1, .int t)]) (st' := [.int 4, .int 1]) (S' := stt (up2 (up2 σ 57 1 ((σ 57 1) + t)) 85 0 (mg (σ 85 0) (σ 83 0) (σ 84 0) t)) τ) (kc' := 0) (ks' := 0) rfl ⟨trivial, trivial, trivial⟩ ?_
  refine R_icmp ck_92_14 (fun c => absurd c (show ¬ (4 : Int32) ≤ 1 from by decide)) (fun _ => ?_)
  refine R_seg sg_92_17 sk_92_17 (pc' := 22) (lv' := [(2, .int 1), (3, .long (((σ 85 0).toInt64) + (t.toInt64 * ((σ 84 0).toInt64)))), (0, .ref 57), (1, .int t)]) (st' := [.int 1, .ref 85]) (S' := stt (up2 (up2 σ 57 1 ((σ 57 1) + t)) 85 0 (mg (σ 85 0) (σ 83 0) (σ 84 0) t)) τ) (kc' := 0) (ks' := 0) rfl ⟨trivial, rfl, trivial, trivial⟩ ?_
  refine R_iald ca_92_22 (j := 1) rfl rfl (by omega) ?_
  refine R_seg sg_92_23 sk_92_23 (pc' := 31) (lv' := [(2, .int 1), (3, .long (((σ 85 0).toInt64) + (t.toInt64 * ((σ 84 0).toInt64)))), (0, .ref 57), (1, .int t)]) (st' := [.int 1, .ref 84, .long t.toInt64, .long ((σ 85 1).toInt64)]) (S' := stt (up2 (up2 σ 57 1 ((σ 57 1) + t)) 85 0 (mg (σ 85 0) (σ 83 0) (σ 84 0) t)) τ) (kc' := 0) (ks' := 0) rfl ⟨trivial, trivial, trivial, trivial, rfl, trivial, trivial⟩ ?_
  refine R_iald ca_92_31 (j := 1) rfl rfl (by omega) ?_
  refine R_seg sg_92_32 sk_92_32 (pc' := 47) (lv' := [(3, .long (((σ 85 1).toInt64) + (t.toInt64 * ((σ 84 1).toInt64)))), (2, .int 1), (0, .ref 57), (1, .int t)]) (st' := [.int 1, .ref 83, .long (((σ 85 1).toInt64) + (t.toInt64 * ((σ 84 1).toInt64))), .int 1, .ref 85]) (S' := stt (up2 (up2 σ 57 1 ((σ 57 1) + t)) 85 0 (mg (σ 85 0) (σ 83 0) (σ 84 0) t)) τ) (kc' := 0) (ks' := 0) rfl ⟨trivial, trivial, trivial, (by decide), trivial, rfl, trivial, trivial, trivial, rfl, trivial, trivial⟩ ?_
  refine R_iald ca_92_47 (j := 1) rfl rfl (by omega) ?_
  refine R_seg sg_92_48 sk_92_48 (pc' := 50) (lv' := [(3, .long (((σ 85 1).toInt64) + (t.toInt64 * ((σ 84 1).toInt64)))), (2, .int 1), (0, .ref 57), (1, .int t)]) (st' := [.int (lg_cmp (((σ 85 1).toInt64) + (t.toInt64 * ((σ 84 1).toInt64))) ((σ 83 1).toInt64)), .int 1, .ref 85]) (S' := stt (up2 (up2 σ 57 1 ((σ 57 1) + t)) 85 0 (mg (σ 85 0) (σ 83 0) (σ 84 0) t)) τ) (kc' := 0) (ks' := 0) rfl ⟨trivial, trivial, trivial⟩ ?_
  suffices key : RU_92 d (0, 0) Post 64 ([(3, .long (((σ 85 1).toInt64) + (t.toInt64 * ((σ 84 1).toInt64)))), (2, .int 1), (0, .ref 57), (1, .int t)]) ([.int (mg (σ 85 1) (σ 83 1) (σ 84 1) t), .int 1, .ref 85]) (stt (up2 (up2 σ 57 1 ((σ 57 1) + t)) 85 0 (mg (σ 85 0) (σ 83 0) (σ 84 0) t)) τ) 0 0 by
    refine R_if ck_92_50 (fun (c_50 : (lg_cmp (((σ 85 1).toInt64) + (t.toInt64 * ((σ 84 1).toInt64))) ((σ 83 1).toInt64)) ≤ 0) => ?_) (fun (c_50 : ¬ (lg_cmp (((σ 85 1).toInt64) + (t.toInt64 * ((σ 84 1).toInt64))) ((σ 83 1).toInt64)) ≤ 0) => ?_)
    · unfold mg at key; rw [if_pos c_50] at key
      refine R_seg sg_92_62 sk_92_62 (pc' := 64) (lv' := [(3, .long (((σ 85 1).toInt64) + (t.toInt64 * ((σ 84 1).toInt64)))), (2, .int 1), (0, .ref 57), (1, .int t)]) (st' := [.int ((((σ 85 1).toInt64) + (t.toInt64 * ((σ 84 1).toInt64))).toInt32), .int 1, .ref 85]) (S' := stt (up2 (up2 σ 57 1 ((σ 57 1) + t)) 85 0 (mg (σ 85 0) (σ 83 0) (σ 84 0) t)) τ) (kc' := 0) (ks' := 0) rfl ⟨trivial, trivial, trivial⟩ ?_
      exact key
    · unfold mg at key; rw [if_neg c_50] at key
      refine R_seg sg_92_53 sk_92_53 (pc' := 58) (lv' := [(3, .long (((σ 85 1).toInt64) + (t.toInt64 * ((σ 84 1).toInt64)))), (2, .int 1), (0, .ref 57), (1, .int t)]) (st' := [.int 1, .ref 83, .int 1, .ref 85]) (S' := stt (up2 (up2 σ 57 1 ((σ 57 1) + t)) 85 0 (mg (σ 85 0) (σ 83 0) (σ 84 0) t)) τ) (kc' := 0) (ks' := 0) rfl ⟨trivial, rfl, trivial, trivial⟩ ?_
      refine R_iald ca_92_58 (j := 1) rfl rfl (by omega) ?_
      refine R_goto ck_92_59 ?_
      exact key
  refine R_iast ca_92_64 (j := 1) rfl rfl (by omega) ?_
  refine R_seg sg_92_65 sk_92_65 (pc' := 68) (lv' := [(2, .int 2), (3, .long (((σ 85 1).toInt64) + (t.toInt64 * ((σ 84 1).toInt64)))), (0, .ref 57), (1, .int t)]) (st' := []) (S' := stt (up2 (up2 (up2 σ 57 1 ((σ 57 1) + t)) 85 0 (mg (σ 85 0) (σ 83 0) (σ 84 0) t)) 85 1 (mg (σ 85 1) (σ 83 1) (σ 84 1) t)) τ) (kc' := 0) (ks' := 0) rfl ⟨(by decide), trivial⟩ ?_
  refine R_goto ck_92_68 ?_
  refine R_seg sg_92_12 sk_92_12 (pc' := 14) (lv' := [(2, .int 2), (3, .long (((σ 85 1).toInt64) + (t.toInt64 * ((σ 84 1).toInt64)))), (0, .ref 57), (1, .int t)]) (st' := [.int 4, .int 2]) (S' := stt (up2 (up2 (up2 σ 57 1 ((σ 57 1) + t)) 85 0 (mg (σ 85 0) (σ 83 0) (σ 84 0) t)) 85 1 (mg (σ 85 1) (σ 83 1) (σ 84 1) t)) τ) (kc' := 0) (ks' := 0) rfl ⟨trivial, trivial, trivial⟩ ?_
  refine R_icmp ck_92_14 (fun c => absurd c (show ¬ (4 : Int32) ≤ 2 from by decide)) (fun _ => ?_)
  refine R_seg sg_92_17 sk_92_17 (pc' := 22) (lv' := [(2, .int 2), (3, .long (((σ 85 1).toInt64) + (t.toInt64 * ((σ 84 1).toInt64)))), (0, .ref 57), (1, .int t)]) (st' := [.int 2, .ref 85]) (S' := stt (up2 (up2 (up2 σ 57 1 ((σ 57 1) + t)) 85 0 (mg (σ 85 0) (σ 83 0) (σ 84 0) t)) 85 1 (mg (σ 85 1) (σ 83 1) (σ 84 1) t)) τ) (kc' := 0) (ks' := 0) rfl ⟨trivial, rfl, trivial, trivial⟩ ?_
  refine R_iald ca_92_22 (j := 2) rfl rfl (by omega) ?_
  refine R_seg sg_92_23 sk_92_23 (pc' := 31) (lv' := [(2, .int 2), (3, .long (((σ 85 1).toInt64) + (t.toInt64 * ((σ 84 1).toInt64)))), (0, .ref 57), (1, .int t)]) (st' := [.int 2, .ref 84, .long t.toInt64, .long ((σ 85 2).toInt64)]) (S' := stt (up2 (up2 (up2 σ 57 1 ((σ 57 1) + t)) 85 0 (mg (σ 85 0) (σ 83 0) (σ 84 0) t)) 85 1 (mg (σ 85 1) (σ 83 1) (σ 84 1) t)) τ) (kc' := 0) (ks' := 0) rfl ⟨trivial, trivial, trivial, trivial, rfl, trivial, trivial⟩ ?_
  refine R_iald ca_92_31 (j := 2) rfl rfl (by omega) ?_
  refine R_seg sg_92_32 sk_92_32 (pc' := 47) (lv' := [(3, .long (((σ 85 2).toInt64) + (t.toInt64 * ((σ 84 2).toInt64)))), (2, .int 2), (0, .ref 57), (1, .int t)]) (st' := [.int 2, .ref 83, .long (((σ 85 2).toInt64) + (t.toInt64 * ((σ 84 2).toInt64))), .int 2, .ref 85]) (S' := stt (up2 (up2 (up2 σ 57 1 ((σ 57 1) + t)) 85 0 (mg (σ 85 0) (σ 83 0) (σ 84 0) t)) 85 1 (mg (σ 85 1) (σ 83 1) (σ 84 1) t)) τ) (kc' := 0) (ks' := 0) rfl ⟨trivial, trivial, trivial, (by decide), trivial, rfl, trivial, trivial, trivial, rfl, trivial, trivial⟩ ?_
  refine R_iald ca_92_47 (j := 2) rfl rfl (by omega) ?_
  refine R_seg sg_92_48 sk_92_48 (pc' := 50) (lv' := [(3, .long (((σ 85 2).toInt64) + (t.toInt64 * ((σ 84 2).toInt64)))), (2, .int 2), (0, .ref 57), (1, .int t)]) (st' := [.int (lg_cmp (((σ 85 2).toInt64) + (t.toInt64 * ((σ 84 2).toInt64))) ((σ 83 2).toInt64)), .int 2, .ref 85]) (S' := stt (up2 (up2 (up2 σ 57 1 ((σ 57 1) + t)) 85 0 (mg (σ 85 0) (σ 83 0) (σ 84 0) t)) 85 1 (mg (σ 85 1) (σ 83 1) (σ 84 1) t)) τ) (kc' := 0) (ks' := 0) rfl ⟨trivial, trivial, trivial⟩ ?_
  suffices key : RU_92 d (0, 0) Post 64 ([(3, .long (((σ 85 2).toInt64) + (t.toInt64 * ((σ 84 2).toInt64)))), (2, .int 2), (0, .ref 57), (1, .int t)]) ([.int (mg (σ 85 2) (σ 83 2) (σ 84 2) t), .int 2, .ref 85]) (stt (up2 (up2 (up2 σ 57 1 ((σ 57 1) + t)) 85 0 (mg (σ 85 0) (σ 83 0) (σ 84 0) t)) 85 1 (mg (σ 85 1) (σ 83 1) (σ 84 1) t)) τ) 0 0 by
    refine R_if ck_92_50 (fun (c_50 : (lg_cmp (((σ 85 2).toInt64) + (t.toInt64 * ((σ 84 2).toInt64))) ((σ 83 2).toInt64)) ≤ 0) => ?_) (fun (c_50 : ¬ (lg_cmp (((σ 85 2).toInt64) + (t.toInt64 * ((σ 84 2).toInt64))) ((σ 83 2).toInt64)) ≤ 0) => ?_)
    · unfold mg at key; rw [if_pos c_50] at key
      refine R_seg sg_92_62 sk_92_62 (pc' := 64) (lv' := [(3, .long (((σ 85 2).toInt64) + (t.toInt64 * ((σ 84 2).toInt64)))), (2, .int 2), (0, .ref 57), (1, .int t)]) (st' := [.int ((((σ 85 2).toInt64) + (t.toInt64 * ((σ 84 2).toInt64))).toInt32), .int 2, .ref 85]) (S' := stt (up2 (up2 (up2 σ 57 1 ((σ 57 1) + t)) 85 0 (mg (σ 85 0) (σ 83 0) (σ 84 0) t)) 85 1 (mg (σ 85 1) (σ 83 1) (σ 84 1) t)) τ) (kc' := 0) (ks' := 0) rfl ⟨trivial, trivial, trivial⟩ ?_
      exact key
    · unfold mg at key; rw [if_neg c_50] at key
      refine R_seg sg_92_53 sk_92_53 (pc' := 58) (lv' := [(3, .long (((σ 85 2).toInt64) + (t.toInt64 * ((σ 84 2).toInt64)))), (2, .int 2), (0, .ref 57), (1, .int t)]) (st' := [.int 2, .ref 83, .int 2, .ref 85]) (S' := stt (up2 (up2 (up2 σ 57 1 ((σ 57 1) + t)) 85 0 (mg (σ 85 0) (σ 83 0) (σ 84 0) t)) 85 1 (mg (σ 85 1) (σ 83 1) (σ 84 1) t)) τ) (kc' := 0) (ks' := 0) rfl ⟨trivial, rfl, trivial, trivial⟩ ?_
      refine R_iald ca_92_58 (j := 2) rfl rfl (by omega) ?_
      refine R_goto ck_92_59 ?_
      exact key
  refine R_iast ca_92_64 (j := 2) rfl rfl (by omega) ?_
  refine R_seg sg_92_65 sk_92_65 (pc' := 68) (lv' := [(2, .int 3), (3, .long (((σ 85 2).toInt64) + (t.toInt64 * ((σ 84 2).toInt64)))), (0, .ref 57), (1, .int t)]) (st' := []) (S' := stt (up2 (up2 (up2 (up2 σ 57 1 ((σ 57 1) + t)) 85 0 (mg (σ 85 0) (σ 83 0) (σ 84 0) t)) 85 1 (mg (σ 85 1) (σ 83 1) (σ 84 1) t)) 85 2 (mg (σ 85 2) (σ 83 2) (σ 84 2) t)) τ) (kc' := 0) (ks' := 0) rfl ⟨(by decide), trivial⟩ ?_
  refine R_goto ck_92_68 ?_
  refine R_seg sg_92_12 sk_92_12 (pc' := 14) (lv' := [(2, .int 3), (3, .long (((σ 85 2).toInt64) + (t.toInt64 * ((σ 84 2).toInt64)))), (0, .ref 57), (1, .int t)]) (st' := [.int 4, .int 3]) (S' := stt (up2 (up2 (up2 (up2 σ 57 1 ((σ 57 1) + t)) 85 0 (mg (σ 85 0) (σ 83 0) (σ 84 0) t)) 85 1 (mg (σ 85 1) (σ 83 1) (σ 84 1) t)) 85 2 (mg (σ 85 2) (σ 83 2) (σ 84 2) t)) τ) (kc' := 0) (ks' := 0) rfl ⟨trivial, trivial, trivial⟩ ?_
  refine R_icmp ck_92_14 (fun c => absurd c (show ¬ (4 : Int32) ≤ 3 from by decide)) (fun _ => ?_)
  refine R_seg sg_92_17 sk_92_17 (pc' := 22) (lv' := [(2, .int 3), (3, .long (((σ 85 2).toInt64) + (t.toInt64 * ((σ 84 2).toInt64)))), (0, .ref 57), (1, .int t)]) (st' := [.int 3, .ref 85]) (S' := stt (up2 (up2 (up2 (up2 σ 57 1 ((σ 57 1) + t)) 85 0 (mg (σ 85 0) (σ 83 0) (σ 84 0) t)) 85 1 (mg (σ 85 1) (σ 83 1) (σ 84 1) t)) 85 2 (mg (σ 85 2) (σ 83 2) (σ 84 2) t)) τ) (kc' := 0) (ks' := 0) rfl ⟨trivial, rfl, trivial, trivial⟩ ?_
  refine R_iald ca_92_22 (j := 3) rfl rfl (by omega) ?_
  refine R_seg sg_92_23 sk_92_23 (pc' := 31) (lv' := [(2, .int 3), (3, .long (((σ 85 2).toInt64) + (t.toInt64 * ((σ 84 2).toInt64)))), (0, .ref 57), (1, .int t)]) (st' := [.int 3, .ref 84, .long t.toInt64, .long ((σ 85 3).toInt64)]) (S' := stt (up2 (up2 (up2 (up2 σ 57 1 ((σ 57 1) + t)) 85 0 (mg (σ 85 0) (σ 83 0) (σ 84 0) t)) 85 1 (mg (σ 85 1) (σ 83 1) (σ 84 1) t)) 85 2 (mg (σ 85 2) (σ 83 2) (σ 84 2) t)) τ) (kc' := 0) (ks' := 0) rfl ⟨trivial, trivial, trivial, trivial, rfl, trivial, trivial⟩ ?_
  refine R_iald ca_92_31 (j := 3) rfl rfl (by omega) ?_
  refine R_seg sg_92_32 sk_92_32 (pc' := 47) (lv' := [(3, .long (((σ 85 3).toInt64) + (t.toInt64 * ((σ 84 3).toInt64)))), (2, .int 3), (0, .ref 57), (1, .int t)]) (st' := [.int 3, .ref 83, .long (((σ 85 3).toInt64) + (t.toInt64 * ((σ 84 3).toInt64))), .int 3, .ref 85]) (S' := stt (up2 (up2 (up2 (up2 σ 57 1 ((σ 57 1) + t)) 85 0 (mg (σ 85 0) (σ 83 0) (σ 84 0) t)) 85 1 (mg (σ 85 1) (σ 83 1) (σ 84 1) t)) 85 2 (mg (σ 85 2) (σ 83 2) (σ 84 2) t)) τ) (kc' := 0) (ks' := 0) rfl ⟨trivial, trivial, trivial, (by decide), trivial, rfl, trivial, trivial, trivial, rfl, trivial, trivial⟩ ?_
  refine R_iald ca_92_47 (j := 3) rfl rfl (by omega) ?_
  refine R_seg sg_92_48 sk_92_48 (pc' := 50) (lv' := [(3, .long (((σ 85 3).toInt64) + (t.toInt64 * ((σ 84 3).toInt64)))), (2, .int 3), (0, .ref 57), (1, .int t)]) (st' := [.int (lg_cmp (((σ 85 3).toInt64) + (t.toInt64 * ((σ 84 3).toInt64))) ((σ 83 3).toInt64)), .int 3, .ref 85]) (S' := stt (up2 (up2 (up2 (up2 σ 57 1 ((σ 57 1) + t)) 85 0 (mg (σ 85 0) (σ 83 0) (σ 84 0) t)) 85 1 (mg (σ 85 1) (σ 83 1) (σ 84 1) t)) 85 2 (mg (σ 85 2) (σ 83 2) (σ 84 2) t)) τ) (kc' := 0) (ks' := 0) rfl ⟨trivial, trivial, trivial⟩ ?_
  suffices key : RU_92 d (0, 0) Post 64 ([(3, .long (((σ 85 3).toInt64) + (t.toInt64 * ((σ 84 3).toInt64)))), (2, .int 3), (0, .ref 57), (1, .int t)]) ([.int (mg (σ 85 3) (σ 83 3) (σ 84 3) t), .int 3, .ref 85]) (stt (up2 (up2 (up2 (up2 σ 57 1 ((σ 57 1) + t)) 85 0 (mg (σ 85 0) (σ 83 0) (σ 84 0) t)) 85 1 (mg (σ 85 1) (σ 83 1) (σ 84 1) t)) 85 2 (mg (σ 85 2) (σ 83 2) (σ 84 2) t)) τ) 0 0 by
    refine R_if ck_92_50 (fun (c_50 : (lg_cmp (((σ 85 3).toInt64) + (t.toInt64 * ((σ 84 3).toInt64))) ((σ 83 3).toInt64)) ≤ 0) => ?_) (fun (c_50 : ¬ (lg_cmp (((σ 85 3).toInt64) + (t.toInt64 * ((σ 84 3).toInt64))) ((σ 83 3).toInt64)) ≤ 0) => ?_)
    · unfold mg at key; rw [if_pos c_50] at key
      refine R_seg sg_92_62 sk_92_62 (pc' := 64) (lv' := [(3, .long (((σ 85 3).toInt64) + (t.toInt64 * ((σ 84 3).toInt64)))), (2, .int 3), (0, .ref 57), (1, .int t)]) (st' := [.int ((((σ 85 3).toInt64) + (t.toInt64 * ((σ 84 3).toInt64))).toInt32), .int 3, .ref 85]) (S' := stt (up2 (up2 (up2 (up2 σ 57 1 ((σ 57 1) + t)) 85 0 (mg (σ 85 0) (σ 83 0) (σ 84 0) t)) 85 1 (mg (σ 85 1) (σ 83 1) (σ 84 1) t)) 85 2 (mg (σ 85 2) (σ 83 2) (σ 84 2) t)) τ) (kc' := 0) (ks' := 0) rfl ⟨trivial, trivial, trivial⟩ ?_
      exact key
    · unfold mg at key; rw [if_neg c_50] at key
      refine R_seg sg_92_53 sk_92_53 (pc' := 58) (lv' := [(3, .long (((σ 85 3).toInt64) + (t.toInt64 * ((σ 84 3).toInt64)))), (2, .int 3), (0, .ref 57), (1, .int t)]) (st' := [.int 3, .ref 83, .int 3, .ref 85]) (S' := stt (up2 (up2 (up2 (up2 σ 57 1 ((σ 57 1) + t)) 85 0 (mg (σ 85 0) (σ 83 0) (σ 84 0) t)) 85 1 (mg (σ 85 1) (σ 83 1) (σ 84 1) t)) 85 2 (mg (σ 85 2) (σ 83 2) (σ 84 2) t)) τ) (kc' := 0) (ks' := 0) rfl ⟨trivial, rfl, trivial, trivial⟩ ?_
      refine R_iald ca_92_58 (j := 3) rfl rfl (by omega) ?_
      refine R_goto ck_92_59 ?_
      exact key
  refine R_iast ca_92_64 (j := 3) rfl rfl (by omega) ?_
  refine R_seg sg_92_65 sk_92_65 (pc' := 68) (lv' := [(2, .int 4), (3, .long (((σ 85 3).toInt64) + (t.toInt64 * ((σ 84 3).toInt64)))), (0, .ref 57), (1, .int t)]) (st' := []) (S' := stt (up2 (up2 (up2 (up2 (up2 σ 57 1 ((σ 57 1) + t)) 85 0 (mg (σ 85 0) (σ 83 0) (σ 84 0) t)) 85 1 (mg (σ 85 1) (σ 83 1) (σ 84 1) t)) 85 2 (mg (σ 85 2) (σ 83 2) (σ 84 2) t)) 85 3 (mg (σ 85 3) (σ 83 3) (σ 84 3) t)) τ) (kc' := 0) (ks' := 0) rfl ⟨(by decide), trivial⟩ ?_
  refine R_goto ck_92_68 ?_
  refine R_seg sg_92_12 sk_92_12 (pc' := 14) (lv' := [(2, .int 4), (3, .long (((σ 85 3).toInt64) + (t.toInt64 * ((σ 84 3).toInt64)))), (0, .ref 57), (1, .int t)]) (st' := [.int 4, .int 4]) (S' := stt (up2 (up2 (up2 (up2 (up2 σ 57 1 ((σ 57 1) + t)) 85 0 (mg (σ 85 0) (σ 83 0) (σ 84 0) t)) 85 1 (mg (σ 85 1) (σ 83 1) (σ 84 1) t)) 85 2 (mg (σ 85 2) (σ 83 2) (σ 84 2) t)) 85 3 (mg (σ 85 3) (σ 83 3) (σ 84 3) t)) τ) (kc' := 0) (ks' := 0) rfl ⟨trivial, trivial, trivial⟩ ?_
  refine R_icmp ck_92_14 (fun _ => ?_) (fun c => absurd (show (4 : Int32) ≤ 4 from by decide) c)
  refine R_ret ck_92_71 rfl ?_
  exact hp
set_option maxRecDepth 20000 in
theorem x_91 {d : Nat} {σ : Nat → Nat → Int32} {τ : Nat → Nat → Int64} {x1 : Int32} {n : Nat} (hn : σ 57 1 = nI n) (hn2 : n ≤ 100000) {Post : Option Value → Sto → Prop} (hs : ∀ t : Nat, 1 ≤ t → t ≤ 1000 → n + t ≤ 100000 → x1 = nI t → Post (some (.int (m_goesOn σ (nI t) 57 1))) (stt (m_goesOn σ (nI t)) τ)) (hf : ¬ (rg x1 1 1000 ∧ ∀ t, x1 = nI t → n + t ≤ 100000) → Post (some (.int (-1))) (stt σ τ)) : Ex (d + 2) 91 [.ref 57, .int x1] (stt σ τ) 0 0 Post := by
  refine en_91 (Nat.le_of_ble_eq_true rfl) ?_
  show RU_91 (d + 1) (0, 0) Post 0 ([(0, .ref 57), (1, .int x1)]) ([]) (stt σ τ) 0 0
  refine R_seg sg_91_0 sk_91_0 (pc' := 5) (lv' := [(0, .ref 57), (1, .int x1)]) (st' := [.int 1000, .int 1, .int x1]) (S' := stt σ τ) (kc' := 0) (ks' := 0) rfl ⟨trivial, trivial, trivial, trivial⟩ ?_
  refine R_stat ck_91_5 (by decide) [.int x1, .int 1, .int 1000] 0 0 (r := []) rfl rfl (Nat.le_of_ble_eq_true rfl) (Nat.le_refl _) (Nat.le_refl _) ?_
  refine xn_81 (d := d) 1 1000 (by omega) (by omega) (fun t l_t u_t e_t => ?_) (fun n_t => ?_)
  · subst e_t
    show RU_91 (d + 1) (0, 0) Post 8 ([(0, .ref 57), (1, .int (nI t))]) ([.int 1]) (stt σ τ) 0 0
    refine R_if ck_91_8 (fun c => absurd c (show ¬ (1 : Int32) = 0 from by decide)) (fun _ => ?_)
    refine R_seg sg_91_11 sk_91_11 (pc' := 19) (lv' := [(0, .ref 57), (1, .int (nI t))]) (st' := [.int 100000, .int ((σ 57 1) + (nI t))]) (S' := stt σ τ) (kc' := 0) (ks' := 0) rfl ⟨trivial, rfl, trivial, trivial, trivial, trivial⟩ ?_
    rw [hn]
    rw [nI_add]
    refine R_icmp ck_91_19 (fun (c_19 : (nI (n + t)) ≤ 100000) => ?_) (fun (c_19 : ¬ (nI (n + t)) ≤ 100000) => ?_)
    · have c_19 : (n + t) ≤ 100000 := (nI_leI (a := (n + t)) (b := 100000) (by omega) (by omega)).mp c_19
      refine R_seg sg_91_24 sk_91_24 (pc' := 26) (lv' := [(0, .ref 57), (1, .int (nI t))]) (st' := [.int (nI t), .ref 57]) (S' := stt σ τ) (kc' := 0) (ks' := 0) rfl ⟨trivial, trivial, trivial⟩ ?_
      refine R_virt ck_91_26 57 [.int (nI t)] 0 0 (r := []) rfl rfl rfl (Nat.le_of_ble_eq_true rfl) (Nat.le_refl _) (Nat.le_refl _) ?_
      refine x_92 (d := d) ?_
      show RU_91 (d + 1) (0, 0) Post 29 ([(0, .ref 57), (1, .int (nI t))]) ([]) (stt (m_goesOn σ (nI t)) τ) 0 0
      refine R_seg sg_91_29 sk_91_29 (pc' := 33) (lv' := [(0, .ref 57), (1, .int (nI t))]) (st' := [.int ((m_goesOn σ (nI t)) 57 1)]) (S' := stt (m_goesOn σ (nI t)) τ) (kc' := 0) (ks' := 0) rfl ⟨trivial, rfl, trivial⟩ ?_
      refine R_iret ck_91_33 rfl rfl ?_
      exact hs t (by omega) (by omega) (by omega) rfl
    · have c_19 : 100000 < (n + t) := Nat.not_le.mp (fun q => c_19 ((nI_leI (a := (n + t)) (b := 100000) (by omega) (by omega)).mpr q))
      refine R_seg sg_91_22 sk_91_22 (pc' := 23) (lv' := [(0, .ref 57), (1, .int (nI t))]) (st' := [.int (-1)]) (S' := stt σ τ) (kc' := 0) (ks' := 0) rfl ⟨trivial, trivial⟩ ?_
      refine R_iret ck_91_23 rfl rfl ?_
      first | exact hf (fun q => n_t q.1) | (refine hf (fun q => ?_); have q2 := q.2 t rfl; omega)
  · show RU_91 (d + 1) (0, 0) Post 8 ([(0, .ref 57), (1, .int x1)]) ([.int 0]) (stt σ τ) 0 0
    refine R_if ck_91_8 (fun _ => ?_) (fun c => absurd (show (0 : Int32) = 0 from by decide) c)
    refine R_seg sg_91_22 sk_91_22 (pc' := 23) (lv' := [(0, .ref 57), (1, .int x1)]) (st' := [.int (-1)]) (S' := stt σ τ) (kc' := 0) (ks' := 0) rfl ⟨trivial, trivial⟩ ?_
    refine R_iret ck_91_23 rfl rfl ?_
    first | exact hf (fun q => n_t q.1) | (refine hf (fun q => ?_); have q2 := q.2 t rfl; omega)
def m_word (σ : Nat → Nat → Int32) (n : Nat) (w : Int32) : Nat → Nat → Int32 := up2 (up2 (up2 (up2 (up2 (up2 (up2 (up2 σ 86 n (vp_nar .byte (w >>> ((24 : Int32) &&& 31)).toInt8.toInt32)) 57 32 (nI (n + 1))) 86 (n + 1) (vp_nar .byte (w >>> ((16 : Int32) &&& 31)).toInt8.toInt32)) 57 32 (nI (n + 2))) 86 (n + 2) (vp_nar .byte (w >>> ((8 : Int32) &&& 31)).toInt8.toInt32)) 57 32 (nI (n + 3))) 86 (n + 3) (vp_nar .byte (w >>> ((0 : Int32) &&& 31)).toInt8.toInt32)) 57 32 (nI (n + 4))
set_option maxRecDepth 20000 in
theorem x_94 {d : Nat} {σ : Nat → Nat → Int32} {τ : Nat → Nat → Int64} {w : Int32} {n : Nat} (hn : σ 57 32 = nI n) (hn2 : n + 4 ≤ 200) {Post : Option Value → Sto → Prop} (hp : Post none (stt (m_word σ n w) τ)) : Ex (d + 1) 94 [.ref 57, .int w] (stt σ τ) 0 0 Post := by
  refine en_94 (Nat.le_of_ble_eq_true rfl) ?_
  show RU_94 d (0, 0) Post 0 ([(0, .ref 57), (1, .int w)]) ([]) (stt σ τ) 0 0
  refine R_seg sg_94_0 sk_94_0 (pc' := 3) (lv' := [(2, .int 24), (0, .ref 57), (1, .int w)]) (st' := []) (S' := stt σ τ) (kc' := 0) (ks' := 0) rfl ⟨trivial, (by decide), trivial⟩ ?_
  refine R_seg sg_94_3 sk_94_3 (pc' := 4) (lv' := [(2, .int 24), (0, .ref 57), (1, .int w)]) (st' := [.int 24]) (S' := stt σ τ) (kc' := 0) (ks' := 0) rfl ⟨trivial, trivial⟩ ?_
  refine R_if ck_94_4 (fun c => absurd c (show ¬ (24 : Int32) < 0 from by decide)) (fun _ => ?_)
  refine R_seg sg_94_7 sk_94_7 (pc' := 19) (lv' := [(2, .int 24), (0, .ref 57), (1, .int w)]) (st' := [.int ((w >>> (24 &&& 31)).toInt8.toInt32), .int (σ 57 32), .ref 86]) (S' := stt σ τ) (kc' := 0) (ks' := 0) rfl ⟨trivial, rfl, trivial, rfl, trivial, trivial, trivial, trivial, trivial⟩ ?_
  rw [hn]
  refine R_bast ca_94_19 (j := n) rfl rfl (by omega) ?_
  refine R_seg sg_94_20 sk_94_20 (pc' := 33) (lv' := [(2, .int 16), (0, .ref 57), (1, .int w)]) (st' := []) (S' := stt (up2 (up2 σ 86 n (vp_nar .byte ((w >>> (24 &&& 31)).toInt8.toInt32))) 57 32 ((σ 57 32) + 1)) τ) (kc' := 0) (ks' := 0) rfl ⟨trivial, rfl, rfl, trivial, trivial, ⟨rfl, ⟨rfl, rfl⟩⟩, (by decide), trivial⟩ ?_
  refine R_goto ck_94_33 ?_
  refine R_seg sg_94_3 sk_94_3 (pc' := 4) (lv' := [(2, .int 16), (0, .ref 57), (1, .int w)]) (st' := [.int 16]) (S' := stt (up2 (up2 σ 86 n (vp_nar .byte ((w >>> (24 &&& 31)).toInt8.toInt32))) 57 32 ((σ 57 32) + 1)) τ) (kc' := 0) (ks' := 0) rfl ⟨trivial, trivial⟩ ?_
  refine R_if ck_94_4 (fun c => absurd c (show ¬ (16 : Int32) < 0 from by decide)) (fun _ => ?_)
  refine R_seg sg_94_7 sk_94_7 (pc' := 19) (lv' := [(2, .int 16), (0, .ref 57), (1, .int w)]) (st' := [.int ((w >>> (16 &&& 31)).toInt8.toInt32), .int ((σ 57 32) + 1), .ref 86]) (S' := stt (up2 (up2 σ 86 n (vp_nar .byte ((w >>> (24 &&& 31)).toInt8.toInt32))) 57 32 ((σ 57 32) + 1)) τ) (kc' := 0) (ks' := 0) rfl ⟨trivial, rfl, trivial, rfl, trivial, trivial, trivial, trivial, trivial⟩ ?_
  rw [hn]
  rw [show (nI n) + 1 = nI (n + 1) from nI_1 n]
  refine R_bast ca_94_19 (j := n + 1) rfl rfl (by omega) ?_
  refine R_seg sg_94_20 sk_94_20 (pc' := 33) (lv' := [(2, .int 8), (0, .ref 57), (1, .int w)]) (st' := []) (S' := stt (up2 (up2 (up2 (up2 σ 86 n (vp_nar .byte ((w >>> (24 &&& 31)).toInt8.toInt32))) 57 32 (nI (n + 1))) 86 (n + 1) (vp_nar .byte ((w >>> (16 &&& 31)).toInt8.toInt32))) 57 32 ((nI (n + 1)) + 1)) τ) (kc' := 0) (ks' := 0) rfl ⟨trivial, rfl, rfl, trivial, trivial, ⟨rfl, ⟨rfl, rfl⟩⟩, (by decide), trivial⟩ ?_
  refine R_goto ck_94_33 ?_
  refine R_seg sg_94_3 sk_94_3 (pc' := 4) (lv' := [(2, .int 8), (0, .ref 57), (1, .int w)]) (st' := [.int 8]) (S' := stt (up2 (up2 (up2 (up2 σ 86 n (vp_nar .byte ((w >>> (24 &&& 31)).toInt8.toInt32))) 57 32 (nI (n + 1))) 86 (n + 1) (vp_nar .byte ((w >>> (16 &&& 31)).toInt8.toInt32))) 57 32 ((nI (n + 1)) + 1)) τ) (kc' := 0) (ks' := 0) rfl ⟨trivial, trivial⟩ ?_
  refine R_if ck_94_4 (fun c => absurd c (show ¬ (8 : Int32) < 0 from by decide)) (fun _ => ?_)
  refine R_seg sg_94_7 sk_94_7 (pc' := 19) (lv' := [(2, .int 8), (0, .ref 57), (1, .int w)]) (st' := [.int ((w >>> (8 &&& 31)).toInt8.toInt32), .int ((nI (n + 1)) + 1), .ref 86]) (S' := stt (up2 (up2 (up2 (up2 σ 86 n (vp_nar .byte ((w >>> (24 &&& 31)).toInt8.toInt32))) 57 32 (nI (n + 1))) 86 (n + 1) (vp_nar .byte ((w >>> (16 &&& 31)).toInt8.toInt32))) 57 32 ((nI (n + 1)) + 1)) τ) (kc' := 0) (ks' := 0) rfl ⟨trivial, rfl, trivial, rfl, trivial, trivial, trivial, trivial, trivial⟩ ?_
  rw [show (nI (n + 1)) + 1 = nI (n + 2) from nI_1 (n + 1)]
  refine R_bast ca_94_19 (j := n + 2) rfl rfl (by omega) ?_
  refine R_seg sg_94_20 sk_94_20 (pc' := 33) (lv' := [(2, .int 0), (0, .ref 57), (1, .int w)]) (st' := []) (S' := stt (up2 (up2 (up2 (up2 (up2 (up2 σ 86 n (vp_nar .byte ((w >>> (24 &&& 31)).toInt8.toInt32))) 57 32 (nI (n + 1))) 86 (n + 1) (vp_nar .byte ((w >>> (16 &&& 31)).toInt8.toInt32))) 57 32 (nI (n + 2))) 86 (n + 2) (vp_nar .byte ((w >>> (8 &&& 31)).toInt8.toInt32))) 57 32 ((nI (n + 2)) + 1)) τ) (kc' := 0) (ks' := 0) rfl ⟨trivial, rfl, rfl, trivial, trivial, ⟨rfl, ⟨rfl, rfl⟩⟩, (by decide), trivial⟩ ?_
  refine R_goto ck_94_33 ?_
  refine R_seg sg_94_3 sk_94_3 (pc' := 4) (lv' := [(2, .int 0), (0, .ref 57), (1, .int w)]) (st' := [.int 0]) (S' := stt (up2 (up2 (up2 (up2 (up2 (up2 σ 86 n (vp_nar .byte ((w >>> (24 &&& 31)).toInt8.toInt32))) 57 32 (nI (n + 1))) 86 (n + 1) (vp_nar .byte ((w >>> (16 &&& 31)).toInt8.toInt32))) 57 32 (nI (n + 2))) 86 (n + 2) (vp_nar .byte ((w >>> (8 &&& 31)).toInt8.toInt32))) 57 32 ((nI (n + 2)) + 1)) τ) (kc' := 0) (ks' := 0) rfl ⟨trivial, trivial⟩ ?_
  refine R_if ck_94_4 (fun c => absurd c (show ¬ (0 : Int32) < 0 from by decide)) (fun _ => ?_)
  refine R_seg sg_94_7 sk_94_7 (pc' := 19) (lv' := [(2, .int 0), (0, .ref 57), (1, .int w)]) (st' := [.int ((w >>> (0 &&& 31)).toInt8.toInt32), .int ((nI (n + 2)) + 1), .ref 86]) (S' := stt (up2 (up2 (up2 (up2 (up2 (up2 σ 86 n (vp_nar .byte ((w >>> (24 &&& 31)).toInt8.toInt32))) 57 32 (nI (n + 1))) 86 (n + 1) (vp_nar .byte ((w >>> (16 &&& 31)).toInt8.toInt32))) 57 32 (nI (n + 2))) 86 (n + 2) (vp_nar .byte ((w >>> (8 &&& 31)).toInt8.toInt32))) 57 32 ((nI (n + 2)) + 1)) τ) (kc' := 0) (ks' := 0) rfl ⟨trivial, rfl, trivial, rfl, trivial, trivial, trivial, trivial, trivial⟩ ?_
  rw [show (nI (n + 2)) + 1 = nI (n + 3) from nI_1 (n + 2)]
  refine R_bast ca_94_19 (j := n + 3) rfl rfl (by omega) ?_
  refine R_seg sg_94_20 sk_94_20 (pc' := 33) (lv' := [(2, .int (-8)), (0, .ref 57), (1, .int w)]) (st' := []) (S' := stt (up2 (up2 (up2 (up2 (up2 (up2 (up2 (up2 σ 86 n (vp_nar .byte ((w >>> (24 &&& 31)).toInt8.toInt32))) 57 32 (nI (n + 1))) 86 (n + 1) (vp_nar .byte ((w >>> (16 &&& 31)).toInt8.toInt32))) 57 32 (nI (n + 2))) 86 (n + 2) (vp_nar .byte ((w >>> (8 &&& 31)).toInt8.toInt32))) 57 32 (nI (n + 3))) 86 (n + 3) (vp_nar .byte ((w >>> (0 &&& 31)).toInt8.toInt32))) 57 32 ((nI (n + 3)) + 1)) τ) (kc' := 0) (ks' := 0) rfl ⟨trivial, rfl, rfl, trivial, trivial, ⟨rfl, ⟨rfl, rfl⟩⟩, (by decide), trivial⟩ ?_
  refine R_goto ck_94_33 ?_
  refine R_seg sg_94_3 sk_94_3 (pc' := 4) (lv' := [(2, .int (-8)), (0, .ref 57), (1, .int w)]) (st' := [.int (-8)]) (S' := stt (up2 (up2 (up2 (up2 (up2 (up2 (up2 (up2 σ 86 n (vp_nar .byte ((w >>> (24 &&& 31)).toInt8.toInt32))) 57 32 (nI (n + 1))) 86 (n + 1) (vp_nar .byte ((w >>> (16 &&& 31)).toInt8.toInt32))) 57 32 (nI (n + 2))) 86 (n + 2) (vp_nar .byte ((w >>> (8 &&& 31)).toInt8.toInt32))) 57 32 (nI (n + 3))) 86 (n + 3) (vp_nar .byte ((w >>> (0 &&& 31)).toInt8.toInt32))) 57 32 ((nI (n + 3)) + 1)) τ) (kc' := 0) (ks' := 0) rfl ⟨trivial, trivial⟩ ?_
  refine R_if ck_94_4 (fun _ => ?_) (fun c => absurd (show (-8 : Int32) < 0 from by decide) c)
  refine R_ret ck_94_36 rfl ?_
  rw [show (nI (n + 3)) + 1 = nI (n + 4) from nI_1 (n + 3)]
  exact hp
def m_feed (σ : Nat → Nat → Int32) (n : Nat) (x1 x2 x3 x4 x5 : Int32) : Nat → Nat → Int32 := m_word (m_word (m_word (m_word (m_word σ n x1) (n + 4) x2) (n + 8) x3) (n + 12) x4) (n + 16) x5
set_option maxRecDepth 20000 in
theorem x_93 {d : Nat} {σ : Nat → Nat → Int32} {τ : Nat → Nat → Int64} {x1 x2 x3 x4 x5 : Int32} {n : Nat} (hn : σ 57 32 = nI n) (hn2 : n ≤ 200) {Post : Option Value → Sto → Prop} (hs : n ≤ 180 → Post (some (.int (nI (n + 20)))) (stt (m_feed σ n x1 x2 x3 x4 x5) τ)) (hf : ¬ n ≤ 180 → Post (some (.int (-1))) (stt σ τ)) : Ex (d + 2) 93 [.ref 57, .int x1, .int x2, .int x3, .int x4, .int x5] (stt σ τ) 0 0 Post := by
  refine en_93 (Nat.le_of_ble_eq_true rfl) ?_
  show RU_93 (d + 1) (0, 0) Post 0 ([(0, .ref 57), (1, .int x1), (2, .int x2), (3, .int x3), (4, .int x4), (5, .int x5)]) ([]) (stt σ τ) 0 0
  refine R_seg sg_93_0 sk_93_0 (pc' := 10) (lv' := [(0, .ref 57), (1, .int x1), (2, .int x2), (3, .int x3), (4, .int x4), (5, .int x5)]) (st' := [.int 200, .int ((σ 57 32) + 20)]) (S' := stt σ τ) (kc' := 0) (ks' := 0) rfl ⟨trivial, rfl, trivial, trivial, trivial, trivial⟩ ?_
  rw [hn]
  rw [nl_20, nI_add]
  refine R_icmp ck_93_10 (fun (c_10 : (nI (n + 20)) ≤ 200) => ?_) (fun (c_10 : ¬ (nI (n + 20)) ≤ 200) => ?_)
  · have c_10 : (n + 20) ≤ 200 := (nI_leI (a := (n + 20)) (b := 200) (by omega) (by omega)).mp c_10
    refine R_seg sg_93_15 sk_93_15 (pc' := 17) (lv' := [(0, .ref 57), (1, .int x1), (2, .int x2), (3, .int x3), (4, .int x4), (5, .int x5)]) (st' := [.int x1, .ref 57]) (S' := stt σ τ) (kc' := 0) (ks' := 0) rfl ⟨trivial, trivial, trivial⟩ ?_
    refine R_virt ck_93_17 57 [.int x1] 0 0 (r := []) rfl rfl rfl (Nat.le_of_ble_eq_true rfl) (Nat.le_refl _) (Nat.le_refl _) ?_
    refine x_94 (d := d) (n := n) hn (by omega) ?_
    show RU_93 (d + 1) (0, 0) Post 20 ([(0, .ref 57), (1, .int x1), (2, .int x2), (3, .int x3), (4, .int x4), (5, .int x5)]) ([]) (stt (m_word σ n x1) τ) 0 0
    refine R_seg sg_93_20 sk_93_20 (pc' := 22) (lv' := [(0, .ref 57), (1, .int x1), (2, .int x2), (3, .int x3), (4, .int x4), (5, .int x5)]) (st' := [.int x2, .ref 57]) (S' := stt (m_word σ n x1) τ) (kc' := 0) (ks' := 0) rfl ⟨trivial, trivial, trivial⟩ ?_
    refine R_virt ck_93_22 57 [.int x2] 0 0 (r := []) rfl rfl rfl (Nat.le_of_ble_eq_true rfl) (Nat.le_refl _) (Nat.le_refl _) ?_
    refine x_94 (d := d) (n := n + 4) rfl (by omega) ?_
    show RU_93 (d + 1) (0, 0) Post 25 ([(0, .ref 57), (1, .int x1), (2, .int x2), (3, .int x3), (4, .int x4), (5, .int x5)]) ([]) (stt (m_word (m_word σ n x1) (n + 4) x2) τ) 0 0
    refine R_seg sg_93_25 sk_93_25 (pc' := 27) (lv' := [(0, .ref 57), (1, .int x1), (2, .int x2), (3, .int x3), (4, .int x4), (5, .int x5)]) (st' := [.int x3, .ref 57]) (S' := stt (m_word (m_word σ n x1) (n + 4) x2) τ) (kc' := 0) (ks' := 0) rfl ⟨trivial, trivial, trivial⟩ ?_
    refine R_virt ck_93_27 57 [.int x3] 0 0 (r := []) rfl rfl rfl (Nat.le_of_ble_eq_true rfl) (Nat.le_refl _) (Nat.le_refl _) ?_
    refine x_94 (d := d) (n := n + 8) rfl (by omega) ?_
    show RU_93 (d + 1) (0, 0) Post 30 ([(0, .ref 57), (1, .int x1), (2, .int x2), (3, .int x3), (4, .int x4), (5, .int x5)]) ([]) (stt (m_word (m_word (m_word σ n x1) (n + 4) x2) (n + 8) x3) τ) 0 0
    refine R_seg sg_93_30 sk_93_30 (pc' := 33) (lv' := [(0, .ref 57), (1, .int x1), (2, .int x2), (3, .int x3), (4, .int x4), (5, .int x5)]) (st' := [.int x4, .ref 57]) (S' := stt (m_word (m_word (m_word σ n x1) (n + 4) x2) (n + 8) x3) τ) (kc' := 0) (ks' := 0) rfl ⟨trivial, trivial, trivial⟩ ?_
    refine R_virt ck_93_33 57 [.int x4] 0 0 (r := []) rfl rfl rfl (Nat.le_of_ble_eq_true rfl) (Nat.le_refl _) (Nat.le_refl _) ?_
    refine x_94 (d := d) (n := n + 12) rfl (by omega) ?_
    show RU_93 (d + 1) (0, 0) Post 36 ([(0, .ref 57), (1, .int x1), (2, .int x2), (3, .int x3), (4, .int x4), (5, .int x5)]) ([]) (stt (m_word (m_word (m_word (m_word σ n x1) (n + 4) x2) (n + 8) x3) (n + 12) x4) τ) 0 0
    refine R_seg sg_93_36 sk_93_36 (pc' := 39) (lv' := [(0, .ref 57), (1, .int x1), (2, .int x2), (3, .int x3), (4, .int x4), (5, .int x5)]) (st' := [.int x5, .ref 57]) (S' := stt (m_word (m_word (m_word (m_word σ n x1) (n + 4) x2) (n + 8) x3) (n + 12) x4) τ) (kc' := 0) (ks' := 0) rfl ⟨trivial, trivial, trivial⟩ ?_
    refine R_virt ck_93_39 57 [.int x5] 0 0 (r := []) rfl rfl rfl (Nat.le_of_ble_eq_true rfl) (Nat.le_refl _) (Nat.le_refl _) ?_
    refine x_94 (d := d) (n := n + 16) rfl (by omega) ?_
    show RU_93 (d + 1) (0, 0) Post 42 ([(0, .ref 57), (1, .int x1), (2, .int x2), (3, .int x3), (4, .int x4), (5, .int x5)]) ([]) (stt (m_word (m_word (m_word (m_word (m_word σ n x1) (n + 4) x2) (n + 8) x3) (n + 12) x4) (n + 16) x5) τ) 0 0
    refine R_seg sg_93_42 sk_93_42 (pc' := 46) (lv' := [(0, .ref 57), (1, .int x1), (2, .int x2), (3, .int x3), (4, .int x4), (5, .int x5)]) (st' := [.int ((m_word (m_word (m_word (m_word (m_word σ n x1) (n + 4) x2) (n + 8) x3) (n + 12) x4) (n + 16) x5) 57 32)]) (S' := stt (m_word (m_word (m_word (m_word (m_word σ n x1) (n + 4) x2) (n + 8) x3) (n + 12) x4) (n + 16) x5) τ) (kc' := 0) (ks' := 0) rfl ⟨trivial, rfl, trivial⟩ ?_
    refine R_iret ck_93_46 rfl rfl ?_
    exact hs (by omega)
  · have c_10 : 200 < (n + 20) := Nat.not_le.mp (fun q => c_10 ((nI_leI (a := (n + 20)) (b := 200) (by omega) (by omega)).mpr q))
    refine R_seg sg_93_13 sk_93_13 (pc' := 14) (lv' := [(0, .ref 57), (1, .int x1), (2, .int x2), (3, .int x3), (4, .int x4), (5, .int x5)]) (st' := [.int (-1)]) (S' := stt σ τ) (kc' := 0) (ks' := 0) rfl ⟨trivial, trivial⟩ ?_
    refine R_iret ck_93_14 rfl rfl ?_
    exact hf (by omega)
set_option maxRecDepth 20000 in
theorem x_95 {d : Nat} {σ : Nat → Nat → Int32} {τ : Nat → Nat → Int64} {x1 : Int32} {n : Nat} (hn : σ 57 32 = nI n) (hn2 : n ≤ 200) {Post : Option Value → Sto → Prop} (hs : ∀ j : Nat, j ≤ n → x1 = nI j → Post (some (.int (nI j))) (stt (up2 σ 57 32 (nI j)) τ)) (hf : ¬ rg x1 0 n → Post (some (.int (-1))) (stt σ τ)) : Ex (d + 1) 95 [.ref 57, .int x1] (stt σ τ) 0 0 Post := by
  refine en_95 (Nat.le_of_ble_eq_true rfl) ?_
  show RU_95 d (0, 0) Post 0 ([(0, .ref 57), (1, .int x1)]) ([]) (stt σ τ) 0 0
  refine R_seg sg_95_0 sk_95_0 (pc' := 1) (lv' := [(0, .ref 57), (1, .int x1)]) (st' := [.int x1]) (S' := stt σ τ) (kc' := 0) (ks' := 0) rfl ⟨trivial, trivial⟩ ?_
  refine R_if ck_95_1 (fun (c_1 : x1 < 0) => ?_) (fun (c_1 : ¬ x1 < 0) => ?_)
  · refine R_seg sg_95_12 sk_95_12 (pc' := 13) (lv' := [(0, .ref 57), (1, .int x1)]) (st' := [.int (-1)]) (S' := stt σ τ) (kc' := 0) (ks' := 0) rfl ⟨trivial, trivial⟩ ?_
    refine R_iret ck_95_13 rfl rfl ?_
    first | (refine hf (fun q => ?_); obtain ⟨j, -, j2, rfl⟩ := q; exact absurd c_1 (nI_pos (by omega))) | (refine hf (fun q => ?_); obtain ⟨j2, -, q1, q2⟩ := q; have e := (nI_eq (by omega) (by omega)).mp q2; omega)
  · obtain ⟨j, hj, e_j⟩ := nI_of c_1
    subst e_j
    refine R_seg sg_95_4 sk_95_4 (pc' := 9) (lv' := [(0, .ref 57), (1, .int (nI j))]) (st' := [.int (σ 57 32), .int (nI j)]) (S' := stt σ τ) (kc' := 0) (ks' := 0) rfl ⟨trivial, trivial, rfl, trivial⟩ ?_
    rw [hn]
    refine R_icmp ck_95_9 (fun (c_9 : (nI j) ≤ (nI n)) => ?_) (fun (c_9 : ¬ (nI j) ≤ (nI n)) => ?_)
    · have c_9 : j ≤ n := (nI_leI (a := j) (b := n) (by omega) (by omega)).mp c_9
      refine R_seg sg_95_14 sk_95_14 (pc' := 20) (lv' := [(0, .ref 57), (1, .int (nI j))]) (st' := [.int (nI j)]) (S' := stt (up2 σ 57 32 (nI j)) τ) (kc' := 0) (ks' := 0) rfl ⟨trivial, trivial, ⟨rfl, ⟨rfl, rfl⟩⟩, trivial, trivial⟩ ?_
      refine R_iret ck_95_20 rfl rfl ?_
      exact hs j (by omega) rfl
    · have c_9 : n < j := Nat.not_le.mp (fun q => c_9 ((nI_leI (a := j) (b := n) (by omega) (by omega)).mpr q))
      refine R_seg sg_95_12 sk_95_12 (pc' := 13) (lv' := [(0, .ref 57), (1, .int (nI j))]) (st' := [.int (-1)]) (S' := stt σ τ) (kc' := 0) (ks' := 0) rfl ⟨trivial, trivial⟩ ?_
      refine R_iret ck_95_13 rfl rfl ?_
      first | (refine hf (fun q => ?_); obtain ⟨j, -, j2, rfl⟩ := q; exact absurd c_1 (nI_pos (by omega))) | (refine hf (fun q => ?_); obtain ⟨j2, -, q1, q2⟩ := q; have e := (nI_eq (by omega) (by omega)).mp q2; omega)
set_option maxRecDepth 20000 in
theorem x_121 {d : Nat} {σ : Nat → Nat → Int32} {τ : Nat → Nat → Int64} {Post : Option Value → Sto → Prop} (hp : Post (some (.int (σ 57 58))) (stt σ τ)) : Ex (d + 1) 121 [.ref 57] (stt σ τ) 0 0 Post := by
  refine en_121 (Nat.le_of_ble_eq_true rfl) ?_
  show RU_121 d (0, 0) Post 0 ([(0, .ref 57)]) ([]) (stt σ τ) 0 0
  refine R_seg sg_121_0 sk_121_0 (pc' := 4) (lv' := [(0, .ref 57)]) (st' := [.int (σ 57 58)]) (S' := stt σ τ) (kc' := 0) (ks' := 0) rfl ⟨trivial, rfl, trivial⟩ ?_
  refine R_iret ck_121_4 rfl rfl ?_
  exact hp
set_option maxRecDepth 20000 in
theorem x_122 {d : Nat} {σ : Nat → Nat → Int32} {τ : Nat → Nat → Int64} {x1 : Int32} {n : Nat} (hn : σ 57 59 = nI n) (hn2 : n ≤ 60000) {Post : Option Value → Sto → Prop} (hs : ∀ j : Nat, j < n → x1 = nI j → Post (some (.int (σ 104 j))) (stt σ τ)) (hf : ¬ (∃ j : Nat, j < n ∧ x1 = nI j) → Post (some (.int (-1))) (stt σ τ)) : Ex (d + 2) 122 [.ref 57, .int x1] (stt σ τ) 0 0 Post := by
  refine en_122 (Nat.le_of_ble_eq_true rfl) ?_
  show RU_122 (d + 1) (0, 0) Post 0 ([(0, .ref 57), (1, .int x1)]) ([]) (stt σ τ) 0 0
  refine R_seg sg_122_0 sk_122_0 (pc' := 8) (lv' := [(0, .ref 57), (1, .int x1)]) (st' := [.int ((σ 57 59) - 1), .int 0, .int x1]) (S' := stt σ τ) (kc' := 0) (ks' := 0) rfl ⟨trivial, trivial, trivial, rfl, trivial, trivial, trivial⟩ ?_
  rw [hn]
  refine R_stat ck_122_8 (by decide) [.int x1, .int 0, .int ((nI n) - 1)] 0 0 (r := []) rfl rfl (Nat.le_of_ble_eq_true rfl) (Nat.le_refl _) (Nat.le_refl _) ?_
  refine xm_81 (d := d) n (by omega) (fun j u_j e_j => ?_) (fun n_j => ?_)
  · subst e_j
    show RU_122 (d + 1) (0, 0) Post 11 ([(0, .ref 57), (1, .int (nI j))]) ([.int 1]) (stt σ τ) 0 0
    refine R_if ck_122_11 (fun c => absurd c (show ¬ (1 : Int32) = 0 from by decide)) (fun _ => ?_)
    refine R_seg sg_122_14 sk_122_14 (pc' := 19) (lv' := [(0, .ref 57), (1, .int (nI j))]) (st' := [.int (nI j), .ref 104]) (S' := stt σ τ) (kc' := 0) (ks' := 0) rfl ⟨trivial, rfl, trivial, trivial⟩ ?_
    refine R_iald ca_122_19 (j := j) rfl rfl (by omega) ?_
    refine R_goto ck_122_20 ?_
    refine R_iret ck_122_24 rfl rfl ?_
    exact hs j (by omega) rfl
  · show RU_122 (d + 1) (0, 0) Post 11 ([(0, .ref 57), (1, .int x1)]) ([.int 0]) (stt σ τ) 0 0
    refine R_if ck_122_11 (fun _ => ?_) (fun c => absurd (show (0 : Int32) = 0 from by decide) c)
    refine R_seg sg_122_23 sk_122_23 (pc' := 24) (lv' := [(0, .ref 57), (1, .int x1)]) (st' := [.int (-1)]) (S' := stt σ τ) (kc' := 0) (ks' := 0) rfl ⟨trivial, trivial⟩ ?_
    refine R_iret ck_122_24 rfl rfl ?_
    exact hf n_j
set_option maxRecDepth 20000 in
theorem x_125 {d : Nat} {σ : Nat → Nat → Int32} {τ : Nat → Nat → Int64} {x1 x2 : Int32} {Post : Option Value → Sto → Prop} (hf : ¬ (rg x1 0 5 ∧ rg x2 0 31) → Post (some (.int (-1))) (stt σ τ)) (h1 : ∀ t k : Nat, t < 6 → k < 32 → x1 = nI t → x2 = nI k → ¬ σ 81 (t * 32 + k) ≤ σ 57 1 → Post (some (.int (σ 81 (t * 32 + k)))) (stt σ τ)) (h0 : ∀ t k : Nat, t < 6 → k < 32 → x1 = nI t → x2 = nI k → σ 81 (t * 32 + k) ≤ σ 57 1 → Post (some (.int (-1))) (stt σ τ)) : Ex (d + 3) 125 [.ref 57, .int x1, .int x2] (stt σ τ) 0 0 Post := by
  refine en_125 (Nat.le_of_ble_eq_true rfl) ?_
  show RU_125 (d + 2) (0, 0) Post 0 ([(0, .ref 57), (1, .int x1), (2, .int x2)]) ([]) (stt σ τ) 0 0
  refine R_seg sg_125_0 sk_125_0 (pc' := 2) (lv' := [(0, .ref 57), (1, .int x1), (2, .int x2)]) (st' := [.int x2, .int x1]) (S' := stt σ τ) (kc' := 0) (ks' := 0) rfl ⟨trivial, trivial, trivial⟩ ?_
  refine R_stat ck_125_2 (by decide) [.int x1, .int x2] 0 0 (r := []) rfl rfl (Nat.le_of_ble_eq_true rfl) (Nat.le_refl _) (Nat.le_refl _) ?_
  refine x_86 (d := d) (fun t k b_t b_k e_t e_k => ?_) (fun n_tk => ?_)
  · subst e_t; subst e_k
    show RU_125 (d + 2) (0, 0) Post 5 ([(0, .ref 57), (1, .int (nI t)), (2, .int (nI k))]) ([.int 1]) (stt σ τ) 0 0
    refine R_if ck_125_5 (fun c => absurd c (show ¬ (1 : Int32) = 0 from by decide)) (fun _ => ?_)
    refine R_seg sg_125_8 sk_125_8 (pc' := 18) (lv' := [(0, .ref 57), (1, .int (nI t)), (2, .int (nI k))]) (st' := [.int ((32 * (nI t)) + (nI k)), .ref 81]) (S' := stt σ τ) (kc' := 0) (ks' := 0) rfl ⟨trivial, rfl, trivial, trivial, trivial, trivial, trivial, trivial⟩ ?_
    refine R_iald ca_125_18 (j := t * 32 + k) rfl (by simp only [nl_0, nl_1, nl_2, nl_3, nl_4, nl_5, nl_6, nl_8, nl_20, nl_31, nl_32, pk_mul, nI_add]; congr 1; omega) (by omega) ?_
    refine R_seg sg_125_19 sk_125_19 (pc' := 23) (lv' := [(0, .ref 57), (1, .int (nI t)), (2, .int (nI k))]) (st' := [.int (σ 57 1), .int (σ 81 (t * 32 + k))]) (S' := stt σ τ) (kc' := 0) (ks' := 0) rfl ⟨trivial, rfl, trivial⟩ ?_
    refine R_icmp ck_125_23 (fun (c_23 : (σ 81 (t * 32 + k)) ≤ (σ 57 1)) => ?_) (fun (c_23 : ¬ (σ 81 (t * 32 + k)) ≤ (σ 57 1)) => ?_)
    · refine R_seg sg_125_40 sk_125_40 (pc' := 41) (lv' := [(0, .ref 57), (1, .int (nI t)), (2, .int (nI k))]) (st' := [.int (-1)]) (S' := stt σ τ) (kc' := 0) (ks' := 0) rfl ⟨trivial, trivial⟩ ?_
      refine R_iret ck_125_41 rfl rfl ?_
      first | exact hf n_tk | exact h0 t k (by omega) (by omega) rfl rfl (by assumption)
    · refine R_seg sg_125_26 sk_125_26 (pc' := 36) (lv' := [(0, .ref 57), (1, .int (nI t)), (2, .int (nI k))]) (st' := [.int ((32 * (nI t)) + (nI k)), .ref 81]) (S' := stt σ τ) (kc' := 0) (ks' := 0) rfl ⟨trivial, rfl, trivial, trivial, trivial, trivial, trivial, trivial⟩ ?_
      refine R_iald ca_125_36 (j := t * 32 + k) rfl (by simp only [nl_0, nl_1, nl_2, nl_3, nl_4, nl_5, nl_6, nl_8, nl_20, nl_31, nl_32, pk_mul, nI_add]; congr 1; omega) (by omega) ?_
      refine R_goto ck_125_37 ?_
      refine R_iret ck_125_41 rfl rfl ?_
      exact h1 t k (by omega) (by omega) rfl rfl (by assumption)
  · show RU_125 (d + 2) (0, 0) Post 5 ([(0, .ref 57), (1, .int x1), (2, .int x2)]) ([.int 0]) (stt σ τ) 0 0
    refine R_if ck_125_5 (fun _ => ?_) (fun c => absurd (show (0 : Int32) = 0 from by decide) c)
    refine R_seg sg_125_40 sk_125_40 (pc' := 41) (lv' := [(0, .ref 57), (1, .int x1), (2, .int x2)]) (st' := [.int (-1)]) (S' := stt σ τ) (kc' := 0) (ks' := 0) rfl ⟨trivial, trivial⟩ ?_
    refine R_iret ck_125_41 rfl rfl ?_
    first | exact hf n_tk | exact h0 t k (by omega) (by omega) rfl rfl (by assumption)
set_option maxRecDepth 20000 in
theorem x_124 {d : Nat} {σ : Nat → Nat → Int32} {τ : Nat → Nat → Int64} {x1 x2 : Int32} {Post : Option Value → Sto → Prop} (hf : ¬ rg x1 0 4 → Post (some (.int (-1))) (stt σ τ)) (h0 : ∀ h : Nat, h < 5 → x1 = nI h → x2 = 0 → σ 64 h = (-1) → Post (some (.int 0)) (stt σ τ)) (h01 : ∀ h : Nat, h < 5 → x1 = nI h → x2 = 0 → ¬ σ 64 h = (-1) → ¬ σ 64 h ≤ σ 57 1 → Post (some (.int 1)) (stt σ τ)) (h02 : ∀ h : Nat, h < 5 → x1 = nI h → x2 = 0 → ¬ σ 64 h = (-1) → σ 64 h ≤ σ 57 1 → Post (some (.int 2)) (stt σ τ)) (h1 : ∀ h : Nat, h < 5 → x1 = nI h → x2 = 1 → Post (some (.int (σ 63 h))) (stt σ τ)) (h2 : ∀ h : Nat, h < 5 → x1 = nI h → x2 = 2 → Post (some (.int (σ 64 h))) (stt σ τ)) (hd : (x2.toInt < 0 ∨ 2 < x2.toInt) → Post (some (.int (-1))) (stt σ τ)) : Ex (d + 2) 124 [.ref 57, .int x1, .int x2] (stt σ τ) 0 0 Post := by
  refine en_124 (Nat.le_of_ble_eq_true rfl) ?_
  show RU_124 (d + 1) (0, 0) Post 0 ([(0, .ref 57), (1, .int x1), (2, .int x2)]) ([]) (stt σ τ) 0 0
  refine R_seg sg_124_0 sk_124_0 (pc' := 3) (lv' := [(0, .ref 57), (1, .int x1), (2, .int x2)]) (st' := [.int 4, .int 0, .int x1]) (S' := stt σ τ) (kc' := 0) (ks' := 0) rfl ⟨trivial, trivial, trivial, trivial⟩ ?_
  refine R_stat ck_124_3 (by decide) [.int x1, .int 0, .int 4] 0 0 (r := []) rfl rfl (Nat.le_of_ble_eq_true rfl) (Nat.le_refl _) (Nat.le_refl _) ?_
  refine xn_81 (d := d) 0 4 (by omega) (by omega) (fun h l_h u_h e_h => ?_) (fun n_h => ?_)
  · subst e_h
    show RU_124 (d + 1) (0, 0) Post 6 ([(0, .ref 57), (1, .int (nI h)), (2, .int x2)]) ([.int 1]) (stt σ τ) 0 0
    refine R_if ck_124_6 (fun _ => ?_) (fun c => absurd (show ¬ (1 : Int32) = 0 from by decide) c)
    refine R_seg sg_124_11 sk_124_11 (pc' := 12) (lv' := [(0, .ref 57), (1, .int (nI h)), (2, .int x2)]) (st' := [.int x2]) (S' := stt σ τ) (kc' := 0) (ks' := 0) rfl ⟨trivial, trivial⟩ ?_
    by_cases w_0 : x2 = 0
    · rw [w_0]
      refine R_tsw ck_124_12 40 rfl ?_
      refine R_seg sg_124_40 sk_124_40 (pc' := 45) (lv' := [(0, .ref 57), (1, .int (nI h)), (2, .int 0)]) (st' := [.int (nI h), .ref 64]) (S' := stt σ τ) (kc' := 0) (ks' := 0) rfl ⟨trivial, rfl, trivial, trivial⟩ ?_
      refine R_iald ca_124_45 (j := h) rfl rfl (by omega) ?_
      refine R_seg sg_124_46 sk_124_46 (pc' := 47) (lv' := [(0, .ref 57), (1, .int (nI h)), (2, .int 0)]) (st' := [.int (-1), .int (σ 64 h)]) (S' := stt σ τ) (kc' := 0) (ks' := 0) rfl ⟨trivial, trivial⟩ ?_
      refine R_icmp ck_124_47 (fun (c_47 : ¬ (σ 64 h) = (-1)) => ?_) (fun (c_47 : ¬ ¬ (σ 64 h) = (-1)) => ?_)
      · refine R_seg sg_124_54 sk_124_54 (pc' := 63) (lv' := [(0, .ref 57), (1, .int (nI h)), (2, .int 0)]) (st' := [.int (nI h), .ref 64, .int (σ 57 1)]) (S' := stt σ τ) (kc' := 0) (ks' := 0) rfl ⟨trivial, rfl, trivial, rfl, trivial, trivial⟩ ?_
        refine R_iald ca_124_63 (j := h) rfl rfl (by omega) ?_
        refine R_icmp ck_124_64 (fun (c_64 : (σ 64 h) ≤ (σ 57 1)) => ?_) (fun (c_64 : ¬ (σ 64 h) ≤ (σ 57 1)) => ?_)
        · refine R_seg sg_124_71 sk_124_71 (pc' := 72) (lv' := [(0, .ref 57), (1, .int (nI h)), (2, .int 0)]) (st' := [.int 2]) (S' := stt σ τ) (kc' := 0) (ks' := 0) rfl ⟨trivial, trivial⟩ ?_
          refine R_iret ck_124_72 rfl rfl ?_
          exact h02 h (by omega) rfl w_0 c_47 c_64
        · refine R_seg sg_124_67 sk_124_67 (pc' := 68) (lv' := [(0, .ref 57), (1, .int (nI h)), (2, .int 0)]) (st' := [.int 1]) (S' := stt σ τ) (kc' := 0) (ks' := 0) rfl ⟨trivial, trivial⟩ ?_
          refine R_goto ck_124_68 ?_
          refine R_iret ck_124_72 rfl rfl ?_
          exact h01 h (by omega) rfl w_0 c_47 c_64
      · refine R_seg sg_124_50 sk_124_50 (pc' := 51) (lv' := [(0, .ref 57), (1, .int (nI h)), (2, .int 0)]) (st' := [.int 0]) (S' := stt σ τ) (kc' := 0) (ks' := 0) rfl ⟨trivial, trivial⟩ ?_
        refine R_goto ck_124_51 ?_
        refine R_iret ck_124_72 rfl rfl ?_
        exact h0 h (by omega) rfl w_0 (Classical.not_not.mp c_47)
    by_cases w_1 : x2 = 1
    · rw [w_1]
      refine R_tsw ck_124_12 73 rfl ?_
      refine R_seg sg_124_73 sk_124_73 (pc' := 78) (lv' := [(0, .ref 57), (1, .int (nI h)), (2, .int 1)]) (st' := [.int (nI h), .ref 63]) (S' := stt σ τ) (kc' := 0) (ks' := 0) rfl ⟨trivial, rfl, trivial, trivial⟩ ?_
      refine R_iald ca_124_78 (j := h) rfl rfl (by omega) ?_
      refine R_iret ck_124_79 rfl rfl ?_
      exact h1 h (by omega) rfl w_1
    by_cases w_2 : x2 = 2
    · rw [w_2]
      refine R_tsw ck_124_12 80 rfl ?_
      refine R_seg sg_124_80 sk_124_80 (pc' := 85) (lv' := [(0, .ref 57), (1, .int (nI h)), (2, .int 2)]) (st' := [.int (nI h), .ref 64]) (S' := stt σ τ) (kc' := 0) (ks' := 0) rfl ⟨trivial, rfl, trivial, trivial⟩ ?_
      refine R_iald ca_124_85 (j := h) rfl rfl (by omega) ?_
      refine R_iret ck_124_86 rfl rfl ?_
      exact h2 h (by omega) rfl w_2
    have w_o : x2.toInt < 0 ∨ 2 < x2.toInt := sw_out (n := 2) (by decide) (fun j hj => by rcases (show j = 0 ∨ j = 1 ∨ j = 2 by omega) with rfl | rfl | rfl <;> assumption)
    refine R_tsw ck_124_12 87 (by simp only [swT]; rw [if_pos w_o]; rfl) ?_
    refine R_seg sg_124_87 sk_124_87 (pc' := 88) (lv' := [(0, .ref 57), (1, .int (nI h)), (2, .int x2)]) (st' := [.int (-1)]) (S' := stt σ τ) (kc' := 0) (ks' := 0) rfl ⟨trivial, trivial⟩ ?_
    refine R_iret ck_124_88 rfl rfl ?_
    exact hd w_o
  · show RU_124 (d + 1) (0, 0) Post 6 ([(0, .ref 57), (1, .int x1), (2, .int x2)]) ([.int 0]) (stt σ τ) 0 0
    refine R_if ck_124_6 (fun c => absurd c (show ¬ ¬ (0 : Int32) = 0 from by decide)) (fun _ => ?_)
    refine R_seg sg_124_9 sk_124_9 (pc' := 10) (lv' := [(0, .ref 57), (1, .int x1), (2, .int x2)]) (st' := [.int (-1)]) (S' := stt σ τ) (kc' := 0) (ks' := 0) rfl ⟨trivial, trivial⟩ ?_
    refine R_iret ck_124_10 rfl rfl ?_
    exact hf n_h
