theorem jd_u6 {d : Nat → Int32} {n : Nat} {v0 v1 v2 v3 v4 v5 v6 : Int32} :
    (∀ j, ¬ j = 5 → (j < 28 + 6 * n ∨ 28 + 6 * n + 6 ≤ j) → (upd (upd (upd (upd (upd (upd (upd d (28 + 6 * n + 0) v0) (28 + 6 * n + 1) v1) (28 + 6 * n + 2) v2) (28 + 6 * n + 3) v3) (28 + 6 * n + 4) v4) (28 + 6 * n + 5) v5) 5 v6) j = d j) ∧
    (upd (upd (upd (upd (upd (upd (upd d (28 + 6 * n + 0) v0) (28 + 6 * n + 1) v1) (28 + 6 * n + 2) v2) (28 + 6 * n + 3) v3) (28 + 6 * n + 4) v4) (28 + 6 * n + 5) v5) 5 v6) 5 = v6 ∧
    (upd (upd (upd (upd (upd (upd (upd d (28 + 6 * n + 0) v0) (28 + 6 * n + 1) v1) (28 + 6 * n + 2) v2) (28 + 6 * n + 3) v3) (28 + 6 * n + 4) v4) (28 + 6 * n + 5) v5) 5 v6) (28 + 6 * n + 0) = v0 ∧
    (upd (upd (upd (upd (upd (upd (upd d (28 + 6 * n + 0) v0) (28 + 6 * n + 1) v1) (28 + 6 * n + 2) v2) (28 + 6 * n + 3) v3) (28 + 6 * n + 4) v4) (28 + 6 * n + 5) v5) 5 v6) (28 + 6 * n + 1) = v1 ∧
    (upd (upd (upd (upd (upd (upd (upd d (28 + 6 * n + 0) v0) (28 + 6 * n + 1) v1) (28 + 6 * n + 2) v2) (28 + 6 * n + 3) v3) (28 + 6 * n + 4) v4) (28 + 6 * n + 5) v5) 5 v6) (28 + 6 * n + 2) = v2 ∧
    (upd (upd (upd (upd (upd (upd (upd d (28 + 6 * n + 0) v0) (28 + 6 * n + 1) v1) (28 + 6 * n + 2) v2) (28 + 6 * n + 3) v3) (28 + 6 * n + 4) v4) (28 + 6 * n + 5) v5) 5 v6) (28 + 6 * n + 3) = v3 ∧
    (upd (upd (upd (upd (upd (upd (upd d (28 + 6 * n + 0) v0) (28 + 6 * n + 1) v1) (28 + 6 * n + 2) v2) (28 + 6 * n + 3) v3) (28 + 6 * n + 4) v4) (28 + 6 * n + 5) v5) 5 v6) (28 + 6 * n + 4) = v4 ∧
    (upd (upd (upd (upd (upd (upd (upd d (28 + 6 * n + 0) v0) (28 + 6 * n + 1) v1) (28 + 6 * n + 2) v2) (28 + 6 * n + 3) v3) (28 + 6 * n + 4) v4) (28 + 6 * n + 5) v5) 5 v6) (28 + 6 * n + 5) = v5 := by
  refine ⟨fun j h5 hj => ?_, jb_uee, ?_, ?_, ?_, ?_, ?_, ?_⟩
  · rw [jb_une h5, jb_une (by omega), jb_une (by omega), jb_une (by omega), jb_une (by omega), jb_une (by omega), jb_une (by omega)]
  · rw [jb_une (by omega), jb_une (by omega), jb_une (by omega), jb_une (by omega), jb_une (by omega), jb_une (by omega)]; exact jb_uee
  · rw [jb_une (by omega), jb_une (by omega), jb_une (by omega), jb_une (by omega), jb_une (by omega)]; exact jb_uee
  · rw [jb_une (by omega), jb_une (by omega), jb_une (by omega), jb_une (by omega)]; exact jb_uee
  · rw [jb_une (by omega), jb_une (by omega), jb_une (by omega)]; exact jb_uee
  · rw [jb_une (by omega), jb_une (by omega)]; exact jb_uee
  · rw [jb_une (by omega)]; exact jb_uee
theorem jd_sh {V : Nat → Nat → Nat} {d : Nat → Int32} (hd : jd_ V d) (hk : jv_ok V) (h2 : V 0 2 < 40) (b w t : Nat) :
    jd_ (jm_sh V b w t) (upd (upd (upd (upd (upd (upd (upd d (28 + 6 * V 0 2 + 0) (nI (V 0 0))) (28 + 6 * V 0 2 + 1) (nI b)) (28 + 6 * V 0 2 + 2) (nI (V 3 b))) (28 + 6 * V 0 2 + 3) (nI w)) (28 + 6 * V 0 2 + 4) (nI t - 1)) (28 + 6 * V 0 2 + 5) (nI (V 0 0 + (V 0 4 + V 0 5)))) 5 (nI (V 0 2 + 1))) := by
  obtain ⟨e0, e1, e2, e3, e4, e5, e6, dv, ds, dd⟩ := hd
  obtain ⟨k0, k1, k2, k3, k4, k5, k6, k7, -, -, -⟩ := hk
  obtain ⟨hf, f5, g0, g1, g2, g3, g4, g5⟩ := jd_u6 (d := d) (n := V 0 2) (v0 := nI (V 0 0)) (v1 := nI b) (v2 := nI (V 3 b)) (v3 := nI w) (v4 := nI t - 1) (v5 := nI (V 0 0 + (V 0 4 + V 0 5))) (v6 := nI (V 0 2 + 1))
  refine ⟨by rw [hf 0 (by decide) (by omega)]; exact e0, by rw [hf 1 (by decide) (by omega)]; exact e1, by rw [hf 2 (by decide) (by omega)]; exact e2, by rw [hf 3 (by decide) (by omega)]; exact e3, by rw [hf 4 (by decide) (by omega)]; exact e4, by rw [f5]; rfl, by rw [hf 6 (by decide) (by omega)]; exact e6, fun p hp => ?_, fun s hs => ?_, fun k hk => ?_⟩
  · have hp' : p < V 0 1 := hp
    rw [hf _ (by omega) (by omega), hf _ (by omega) (by omega), hf _ (by omega) (by omega)]; exact dv p hp'
  · have hs' : s < V 0 2 + 1 := hs
    by_cases e : s = V 0 2
    · rw [show jm_sh V b w t 4 s = V 0 0 from if_pos e, show jm_sh V b w t 5 s = b from if_pos e, show jm_sh V b w t 6 s = V 3 b from if_pos e, show jm_sh V b w t 7 s = w from if_pos e, show jm_sh V b w t 8 s = t from if_pos e, show jm_sh V b w t 9 s = V 0 0 + (V 0 4 + V 0 5) from if_pos e, e]
      exact ⟨g0, g1, g2, g3, g4, g5⟩
    · rw [show jm_sh V b w t 4 s = V 4 s from if_neg e, show jm_sh V b w t 5 s = V 5 s from if_neg e, show jm_sh V b w t 6 s = V 6 s from if_neg e, show jm_sh V b w t 7 s = V 7 s from if_neg e, show jm_sh V b w t 8 s = V 8 s from if_neg e, show jm_sh V b w t 9 s = V 9 s from if_neg e]
      rw [hf _ (by omega) (by omega), hf _ (by omega) (by omega), hf _ (by omega) (by omega), hf _ (by omega) (by omega), hf _ (by omega) (by omega), hf _ (by omega) (by omega)]; exact ds s (by omega)
  · have hk' : k < V 0 3 := hk
    rw [hf _ (by omega) (by omega), hf _ (by omega) (by omega), hf _ (by omega) (by omega), hf _ (by omega) (by omega)]; exact dd k hk'
set_option maxRecDepth 100000 in
set_option maxHeartbeats 4000000 in
theorem l_quickm {sc : Nat × (Nat → Int32)} {s0 s1 s2 s3 s4 s5 s6 s7 s8 s9 s11 : List va_E} {V : Nat → Nat → Nat} (I J d e kp nm : Nat → Int32) (W : Nat → Nat → Int32) (hd : jd_ V d) (hk : jv_ok V) (c : Nat) (hc : c < 2) : ∀ (n p : Nat) (o : Option Nat), p + n = V 0 1 → (∀ q, o = some q → q < V 0 1) → jb_J sc RX12 cX12_quickest 4 (Option.some .int) false 2 0 0 4 [some (.ref 105), some (.int (nI c)), some (.int (jq_w o)), some (.int (nI p))] [] [s0, s1, s2, s3, s4, s5, s6, s7, s8, s9, jb_mdl I J d e kp nm W, s11] (fun r h9 => r = some (.int (jq_w (jm_qk V c n p o))) ∧ h9 = [s0, s1, s2, s3, s4, s5, s6, s7, s8, s9, jb_mdl I J d e kp nm W, s11]) := by
  have hd0 := hd
  have hk0 := hk
  obtain ⟨e0, e1, e2, e3, e4, e5, e6, dv, ds, dd⟩ := hd
  obtain ⟨k0, k1, k2, k3, k4, k5, k6, k7, kv, ks, kd⟩ := hk
  intro n
  induction n with
  | zero =>
    intro p o hp ho
    show jb_J _ RX12 cX12_quickest 4 (Option.some .int) false 2 0 0 4 [some (.ref 105), some (.int (nI c)), some (.int (jq_w o)), some (.int (nI p))] [] [s0, s1, s2, s3, s4, s5, s6, s7, s8, s9, jb_mdl I J d e kp nm W, s11] _
    refine jb_iload_n (pc' := 5) dX12_quickest_4 rfl rfl ?_
    refine jb_aload_n (pc' := 6) dX12_quickest_5 rfl rfl ?_
    refine gf_X12_7 (pc' := 9) (v := .ref 106) dX12_quickest_6 rfl rfl rfl ?_
    refine jb_iconst (pc' := 10) 4 dX12_quickest_9 (by decide) rfl ?_
    refine jb_iaload (pc' := 11) (i9 := 4) (f := d) dX12_quickest_10 rfl jb_x4 (by decide) rfl ?_
    refine jb_top (v := .int (d 4)) (w := .int (nI (V 0 1))) (jb_vI e4) ?_
    refine jb_icmp_ge (tgt := 49) (pc' := 14) dX12_quickest_11 (by decide) rfl (fun _ => ?_) (fun z => absurd (nI_le (a := V 0 1) (b := p) (by omega) (by omega)) z)
    refine jb_iload_n (pc' := 50) dX12_quickest_49 rfl rfl ?_
    refine jb_iret dX12_quickest_50 rfl ?_
    exact ⟨rfl, rfl⟩
  | succ n ih =>
    intro p o hp ho
    have q1 := kv p (by omega)
    have b1 := jm_th_le hk0 (p := p) (by omega)
    cases o with
    | none =>
      show jb_J _ RX12 cX12_quickest 4 (Option.some .int) false 2 0 0 4 [some (.ref 105), some (.int (nI c)), some (.int (-1)), some (.int (nI p))] [] [s0, s1, s2, s3, s4, s5, s6, s7, s8, s9, jb_mdl I J d e kp nm W, s11] _
      refine jb_iload_n (pc' := 5) dX12_quickest_4 rfl rfl ?_
      refine jb_aload_n (pc' := 6) dX12_quickest_5 rfl rfl ?_
      refine gf_X12_7 (pc' := 9) (v := .ref 106) dX12_quickest_6 rfl rfl rfl ?_
      refine jb_iconst (pc' := 10) 4 dX12_quickest_9 (by decide) rfl ?_
      refine jb_iaload (pc' := 11) (i9 := 4) (f := d) dX12_quickest_10 rfl jb_x4 (by decide) rfl ?_
      refine jb_top (v := .int (d 4)) (w := .int (nI (V 0 1))) (jb_vI e4) ?_
      refine jb_icmp_ge (tgt := 49) (pc' := 14) dX12_quickest_11 (by decide) rfl (fun z => absurd z (nI_ge (a := p) (b := V 0 1) (by omega) (by omega))) (fun _ => ?_)
      refine jb_aload_n (pc' := 15) dX12_quickest_14 rfl rfl ?_
      refine jb_iload_n (pc' := 16) dX12_quickest_15 rfl rfl ?_
      refine jb_iconst (pc' := 17) 2 dX12_quickest_16 (by decide) rfl ?_
      refine jb_callV (pc' := 20) (ci := 12) (q := 105) (As := [.int (nI p), .int 2]) (a2 := 0) (b2 := 0) wv_X12_145 rfl dX12_quickest_17 (c_of2 I J d e kp nm W hd0 hk0 p (by omega)) rfl rfl ⟨by decide, Nat.le_of_eq (Nat.zero_add _), Nat.le_of_eq (Nat.zero_add _)⟩ (Nat.le_of_ble_eq_true rfl) rfl (fun r h9 hq => ?_)
      obtain ⟨rfl, rfl⟩ := hq
      show jb_J _ RX12 cX12_quickest 4 (Option.some .int) false 2 0 0 20 [some (.ref 105), some (.int (nI c)), some (.int (-1)), some (.int (nI p))] [.int (nI (V 3 p))] [s0, s1, s2, s3, s4, s5, s6, s7, s8, s9, jb_mdl I J d e kp nm W, s11] _
      refine jb_iload_n (pc' := 21) dX12_quickest_20 rfl rfl ?_
      refine jb_icmp_ne (tgt := 43) (pc' := 24) dX12_quickest_21 (by decide) rfl (fun hcl => ?_) (fun hcl => ?_)
      · have hcl : ¬ (V 3 p) = c := fun z9 => hcl ((nI_eq (a := (V 3 p)) (b := c) (by omega) (by omega)).mpr z9)
        refine jb_iinc_ (pc' := 46) (nI (p + 1)) dX12_quickest_43 (by decide) rfl (jb_inc p 1) (jb_at3 rfl) rfl ?_
        refine jb_goto (pc' := 4) dX12_quickest_46 (by decide) ?_
        have e9 : jm_qk V c (n + 1) p (none) = jm_qk V c n (p + 1) (none) := congrArg (jm_qk V c n (p + 1)) (by first | exact if_neg (fun z => hcl z.1) | exact if_neg (fun z => by have := z.2; simp [jm_qb] at this; omega))
        rw [e9]
        exact ih (p + 1) (none) (by omega) (fun q hq => by cases hq)
      · have hcl : (V 3 p) = c := (nI_eq (a := (V 3 p)) (b := c) (by omega) (by omega)).mp hcl
        refine jb_iload_n (pc' := 25) dX12_quickest_24 rfl rfl ?_
        refine jb_if_lt (tgt := 41) (pc' := 28) dX12_quickest_25 (by decide) rfl (fun _ => ?_) (fun z => absurd (by decide) z)
        refine jb_iload_n (pc' := 42) dX12_quickest_41 rfl rfl ?_
        refine jb_istore_n_ (pc' := 43) dX12_quickest_42 (by decide) (jb_at2 rfl) rfl ?_
        refine jb_iinc_ (pc' := 46) (nI (p + 1)) dX12_quickest_43 (by decide) rfl (jb_inc p 1) (jb_at3 rfl) rfl ?_
        refine jb_goto (pc' := 4) dX12_quickest_46 (by decide) ?_
        have e9 : jm_qk V c (n + 1) p (none) = jm_qk V c n (p + 1) (some p) := congrArg (jm_qk V c n (p + 1)) (if_pos ⟨hcl, by simp [jm_qb]⟩)
        rw [e9]
        exact ih (p + 1) (some p) (by omega) (fun q hq => by cases hq; omega)
    | some q =>
      have hq := ho q rfl
      have b2 := jm_th_le hk0 (p := q) hq
      show jb_J _ RX12 cX12_quickest 4 (Option.some .int) false 2 0 0 4 [some (.ref 105), some (.int (nI c)), some (.int (nI q)), some (.int (nI p))] [] [s0, s1, s2, s3, s4, s5, s6, s7, s8, s9, jb_mdl I J d e kp nm W, s11] _
      refine jb_iload_n (pc' := 5) dX12_quickest_4 rfl rfl ?_
      refine jb_aload_n (pc' := 6) dX12_quickest_5 rfl rfl ?_
      refine gf_X12_7 (pc' := 9) (v := .ref 106) dX12_quickest_6 rfl rfl rfl ?_
      refine jb_iconst (pc' := 10) 4 dX12_quickest_9 (by decide) rfl ?_
      refine jb_iaload (pc' := 11) (i9 := 4) (f := d) dX12_quickest_10 rfl jb_x4 (by decide) rfl ?_
      refine jb_top (v := .int (d 4)) (w := .int (nI (V 0 1))) (jb_vI e4) ?_
      refine jb_icmp_ge (tgt := 49) (pc' := 14) dX12_quickest_11 (by decide) rfl (fun z => absurd z (nI_ge (a := p) (b := V 0 1) (by omega) (by omega))) (fun _ => ?_)
      refine jb_aload_n (pc' := 15) dX12_quickest_14 rfl rfl ?_
      refine jb_iload_n (pc' := 16) dX12_quickest_15 rfl rfl ?_
      refine jb_iconst (pc' := 17) 2 dX12_quickest_16 (by decide) rfl ?_
      refine jb_callV (pc' := 20) (ci := 12) (q := 105) (As := [.int (nI p), .int 2]) (a2 := 0) (b2 := 0) wv_X12_145 rfl dX12_quickest_17 (c_of2 I J d e kp nm W hd0 hk0 p (by omega)) rfl rfl ⟨by decide, Nat.le_of_eq (Nat.zero_add _), Nat.le_of_eq (Nat.zero_add _)⟩ (Nat.le_of_ble_eq_true rfl) rfl (fun r h9 hq => ?_)
      obtain ⟨rfl, rfl⟩ := hq
      show jb_J _ RX12 cX12_quickest 4 (Option.some .int) false 2 0 0 20 [some (.ref 105), some (.int (nI c)), some (.int (nI q)), some (.int (nI p))] [.int (nI (V 3 p))] [s0, s1, s2, s3, s4, s5, s6, s7, s8, s9, jb_mdl I J d e kp nm W, s11] _
      refine jb_iload_n (pc' := 21) dX12_quickest_20 rfl rfl ?_
      refine jb_icmp_ne (tgt := 43) (pc' := 24) dX12_quickest_21 (by decide) rfl (fun hcl => ?_) (fun hcl => ?_)
      · have hcl : ¬ (V 3 p) = c := fun z9 => hcl ((nI_eq (a := (V 3 p)) (b := c) (by omega) (by omega)).mpr z9)
        refine jb_iinc_ (pc' := 46) (nI (p + 1)) dX12_quickest_43 (by decide) rfl (jb_inc p 1) (jb_at3 rfl) rfl ?_
        refine jb_goto (pc' := 4) dX12_quickest_46 (by decide) ?_
        have e9 : jm_qk V c (n + 1) p (some q) = jm_qk V c n (p + 1) (some q) := congrArg (jm_qk V c n (p + 1)) (by first | exact if_neg (fun z => hcl z.1) | exact if_neg (fun z => by have := z.2; simp [jm_qb] at this; omega))
        rw [e9]
        exact ih (p + 1) (some q) (by omega) ho
      · have hcl : (V 3 p) = c := (nI_eq (a := (V 3 p)) (b := c) (by omega) (by omega)).mp hcl
        refine jb_iload_n (pc' := 25) dX12_quickest_24 rfl rfl ?_
        refine jb_if_lt (tgt := 41) (pc' := 28) dX12_quickest_25 (by decide) rfl (fun z => absurd z (nI_pos (n := q) (by omega))) (fun _ => ?_)
        refine jb_aload_n (pc' := 29) dX12_quickest_28 rfl rfl ?_
        refine jb_iload_n (pc' := 30) dX12_quickest_29 rfl rfl ?_
        refine jb_callV (pc' := 33) (ci := 12) (q := 105) (As := [.int (nI p)]) (a2 := 0) (b2 := 0) wv_X12_154 rfl dX12_quickest_30 (c_thinksOf I J d e kp nm W hd0 hk0 p (by omega)) rfl rfl ⟨by decide, Nat.le_of_eq (Nat.zero_add _), Nat.le_of_eq (Nat.zero_add _)⟩ (Nat.le_of_ble_eq_true rfl) rfl (fun r h9 hq => ?_)
        obtain ⟨rfl, rfl⟩ := hq
        show jb_J _ RX12 cX12_quickest 4 (Option.some .int) false 2 0 0 33 [some (.ref 105), some (.int (nI c)), some (.int (nI q)), some (.int (nI p))] [.int (nI (jm_th V p))] [s0, s1, s2, s3, s4, s5, s6, s7, s8, s9, jb_mdl I J d e kp nm W, s11] _
        refine jb_aload_n (pc' := 34) dX12_quickest_33 rfl rfl ?_
        refine jb_iload_n (pc' := 35) dX12_quickest_34 rfl rfl ?_
        refine jb_callV (pc' := 38) (ci := 12) (q := 105) (As := [.int (nI q)]) (a2 := 0) (b2 := 0) wv_X12_154 rfl dX12_quickest_35 (c_thinksOf I J d e kp nm W hd0 hk0 q (by omega)) rfl rfl ⟨by decide, Nat.le_of_eq (Nat.zero_add _), Nat.le_of_eq (Nat.zero_add _)⟩ (Nat.le_of_ble_eq_true rfl) rfl (fun r h9 hq => ?_)
        obtain ⟨rfl, rfl⟩ := hq
        show jb_J _ RX12 cX12_quickest 4 (Option.some .int) false 2 0 0 38 [some (.ref 105), some (.int (nI c)), some (.int (nI q)), some (.int (nI p))] [.int (nI (jm_th V q)), .int (nI (jm_th V p))] [s0, s1, s2, s3, s4, s5, s6, s7, s8, s9, jb_mdl I J d e kp nm W, s11] _
        refine jb_icmp_ge (tgt := 43) (pc' := 41) dX12_quickest_38 (by decide) rfl (fun hth => ?_) (fun hth => ?_)
        · have hth : (jm_th V q) ≤ (jm_th V p) := (nI_leI (a := (jm_th V q)) (b := (jm_th V p)) (by omega) (by omega)).mp hth
          refine jb_iinc_ (pc' := 46) (nI (p + 1)) dX12_quickest_43 (by decide) rfl (jb_inc p 1) (jb_at3 rfl) rfl ?_
          refine jb_goto (pc' := 4) dX12_quickest_46 (by decide) ?_
          have e9 : jm_qk V c (n + 1) p (some q) = jm_qk V c n (p + 1) (some q) := congrArg (jm_qk V c n (p + 1)) (by first | exact if_neg (fun z => hcl z.1) | exact if_neg (fun z => by have := z.2; simp [jm_qb] at this; omega))
          rw [e9]
          exact ih (p + 1) (some q) (by omega) ho
        · have hth : ¬ (jm_th V q) ≤ (jm_th V p) := fun z9 => hth ((nI_leI (a := (jm_th V q)) (b := (jm_th V p)) (by omega) (by omega)).mpr z9)
          refine jb_iload_n (pc' := 42) dX12_quickest_41 rfl rfl ?_
          refine jb_istore_n_ (pc' := 43) dX12_quickest_42 (by decide) (jb_at2 rfl) rfl ?_
          refine jb_iinc_ (pc' := 46) (nI (p + 1)) dX12_quickest_43 (by decide) rfl (jb_inc p 1) (jb_at3 rfl) rfl ?_
          refine jb_goto (pc' := 4) dX12_quickest_46 (by decide) ?_
          have e9 : jm_qk V c (n + 1) p (some q) = jm_qk V c n (p + 1) (some p) := congrArg (jm_qk V c n (p + 1)) (if_pos ⟨hcl, by simp [jm_qb]; omega⟩)
          rw [e9]
          exact ih (p + 1) (some p) (by omega) (fun q hq => by cases hq; omega)
set_option maxRecDepth 100000 in
set_option maxHeartbeats 4000000 in
theorem c_quickm {sc : Nat × (Nat → Int32)} {s0 s1 s2 s3 s4 s5 s6 s7 s8 s9 s11 : List va_E} {V : Nat → Nat → Nat} (I J d e kp nm : Nat → Int32) (W : Nat → Nat → Int32) (hd : jd_ V d) (hk : jv_ok V) (c : Nat) (hc : c < 2) : jb_C sc yX12_quickest cX12_quickest 4 (Option.some .int) 2 0 0 [.ref 105, .int (nI c)] [s0, s1, s2, s3, s4, s5, s6, s7, s8, s9, jb_mdl I J d e kp nm W, s11] (fun r h9 => h9 = [s0, s1, s2, s3, s4, s5, s6, s7, s8, s9, jb_mdl I J d e kp nm W, s11] ∧ ((jm_q V c = none ∧ r = some (.int (-1))) ∨ (∃ q, q < V 0 1 ∧ jm_q V c = some q ∧ r = some (.int (nI q))))) := by
  refine jb_CofJ (ini := false) (by decide +kernel) (fun h => by cases h) (Nat.le_of_ble_eq_true rfl) ?_
  show jb_J sc RX12 cX12_quickest 4 (Option.some .int) false 2 0 0 0 [some (.ref 105), some (.int (nI c)), none, none] [] [s0, s1, s2, s3, s4, s5, s6, s7, s8, s9, jb_mdl I J d e kp nm W, s11] _
  refine jb_iconst (pc' := 1) (-1) dX12_quickest_0 (by decide) rfl ?_
  refine jb_istore_n_ (pc' := 2) dX12_quickest_1 (by decide) (jb_at2 rfl) rfl ?_
  refine jb_iconst (pc' := 3) 0 dX12_quickest_2 (by decide) rfl ?_
  refine jb_istore_n_ (pc' := 4) dX12_quickest_3 (by decide) (jb_at3 rfl) rfl ?_
  refine jb_J.mono (l_quickm I J d e kp nm W hd hk c hc (V 0 1) 0 none (by omega) (fun q h => by cases h)) (Nat.le_refl _) (Nat.le_refl _) (Nat.le_refl _) (fun r h9 hq => ?_)
  obtain ⟨rfl, rfl⟩ := hq
  refine ⟨rfl, ?_⟩
  cases e : jm_q V c with
  | none => exact Or.inl ⟨rfl, by rw [show jm_qk V c (V 0 1) 0 none = none from e]; rfl⟩
  | some q => exact Or.inr ⟨q, jm_q_lt e, rfl, by rw [show jm_qk V c (V 0 1) 0 none = some q from e]; rfl⟩
set_option maxRecDepth 100000 in
set_option maxHeartbeats 4000000 in
theorem c_shoutsm {sc : Nat × (Nat → Int32)} {s0 s1 s2 s3 s4 s5 s6 s7 s8 s9 s11 : List va_E} {V : Nat → Nat → Nat} (I J d e kp nm : Nat → Int32) (W : Nat → Nat → Int32) (hd : jd_ V d) (hk : jv_ok V) (x w t : Nat) (hx : x < V 0 1) (h2 : V 0 2 < 40) : jb_C sc yX12_shouts cX12_shouts 6 (Option.some .int) 1 0 0 [.ref 105, .int (nI x), .int (nI w), .int (nI t - 1)] [s0, s1, s2, s3, s4, s5, s6, s7, s8, s9, jb_mdl I J d e kp nm W, s11] (fun r h9 => r = some (.int (nI (V 0 2))) ∧ ∃ d9, jd_ (jm_sh V x w t) d9 ∧ d9 7 = d 7 ∧ jd_f d d9 ∧ h9 = [s0, s1, s2, s3, s4, s5, s6, s7, s8, s9, jb_mdl I J d9 e kp nm W, s11]) := by
  refine jb_CofJ (ini := false) (by decide +kernel) (fun h => by cases h) (Nat.le_of_ble_eq_true rfl) ?_
  show jb_J sc RX12 cX12_shouts 6 (Option.some .int) false 1 0 0 0 [some (.ref 105), some (.int (nI x)), some (.int (nI w)), some (.int (nI t - 1)), none, none] [] [s0, s1, s2, s3, s4, s5, s6, s7, s8, s9, jb_mdl I J d e kp nm W, s11] _
  have hd0 := hd
  have hk0 := hk
  obtain ⟨e0, e1, e2, e3, e4, e5, e6, dv, ds, dd⟩ := hd
  obtain ⟨k0, k1, k2, k3, k4, k5, k6, k7, kv, ks, kd⟩ := hk
  refine jb_aload_n (pc' := 1) dX12_shouts_0 rfl rfl ?_
  refine gf_X12_7 (pc' := 4) (v := .ref 106) dX12_shouts_1 rfl rfl rfl ?_
  refine jb_iconst (pc' := 5) 5 dX12_shouts_4 (by decide) rfl ?_
  refine jb_iaload (pc' := 6) (i9 := 5) (f := d) dX12_shouts_5 rfl jb_x5 (by decide) rfl ?_
  refine jb_top (v := .int (d 5)) (w := .int (nI (V 0 2))) (jb_vI e5) ?_
  refine jb_istore_ (pc' := 8) dX12_shouts_6 (by decide) (jb_at4 rfl) rfl ?_
  refine jb_bipush (pc' := 10) 28 dX12_shouts_8 (by decide) rfl ?_
  refine jb_bipush (pc' := 12) 6 dX12_shouts_10 (by decide) rfl ?_
  refine jb_iload (pc' := 14) dX12_shouts_12 rfl rfl ?_
  refine jb_imul (pc' := 15) dX12_shouts_14 rfl ?_
  refine jb_top (v := .int (6 * (nI (V 0 2)))) (w := .int (nI (6 * (V 0 2)))) (jb_vI (pk_mul 6 _)) ?_
  refine jb_iadd (pc' := 16) dX12_shouts_15 rfl ?_
  refine jb_top (v := .int (28 + (nI (6 * (V 0 2))))) (w := .int (nI (28 + 6 * (V 0 2)))) (jb_vI (nI_add 28 _)) ?_
  refine jb_istore_ (pc' := 18) dX12_shouts_16 (by decide) (jb_at5 rfl) rfl ?_
  refine jb_aload_n (pc' := 19) dX12_shouts_18 rfl rfl ?_
  refine gf_X12_7 (pc' := 22) (v := .ref 106) dX12_shouts_19 rfl rfl rfl ?_
  refine jb_iload (pc' := 24) dX12_shouts_22 rfl rfl ?_
  refine jb_iconst (pc' := 25) 0 dX12_shouts_24 (by decide) rfl ?_
  refine jb_iadd (pc' := 26) dX12_shouts_25 rfl ?_
  refine jb_top (v := .int ((nI (28 + 6 * (V 0 2))) + 0)) (w := .int (nI (28 + 6 * (V 0 2) + 0))) (jb_vI (nI_add _ 0)) ?_
  refine jb_aload_n (pc' := 27) dX12_shouts_26 rfl rfl ?_
  refine gf_X12_7 (pc' := 30) (v := .ref 106) dX12_shouts_27 rfl rfl rfl ?_
  refine jb_iconst (pc' := 31) 3 dX12_shouts_30 (by decide) rfl ?_
  refine jb_iaload (pc' := 32) (i9 := 3) (f := d) dX12_shouts_31 rfl jb_x3 (by decide) rfl ?_
  refine jb_top (v := .int (d 3)) (w := .int (nI (V 0 0))) (jb_vI e3) ?_
  refine jb_iastore (pc' := 33) (i9 := (28 + 6 * (V 0 2) + 0)) (f := d) (h' := [s0, s1, s2, s3, s4, s5, s6, s7, s8, s9, jb_mdl I J (upd d (28 + 6 * (V 0 2) + 0) (nI (V 0 0))) e kp nm W, s11]) dX12_shouts_32 rfl (jb_ix_nI (by omega)) (by omega) rfl rfl ?_
  have hd1 : jd_ V (upd d (28 + 6 * (V 0 2) + 0) (nI (V 0 0))) := jd_o hd0 hk0 (by omega)
  refine jb_aload_n (pc' := 34) dX12_shouts_33 rfl rfl ?_
  refine gf_X12_7 (pc' := 37) (v := .ref 106) dX12_shouts_34 rfl rfl rfl ?_
  refine jb_iload (pc' := 39) dX12_shouts_37 rfl rfl ?_
  refine jb_iconst (pc' := 40) 1 dX12_shouts_39 (by decide) rfl ?_
  refine jb_iadd (pc' := 41) dX12_shouts_40 rfl ?_
  refine jb_top (v := .int ((nI (28 + 6 * (V 0 2))) + 1)) (w := .int (nI (28 + 6 * (V 0 2) + 1))) (jb_vI (nI_add _ 1)) ?_
  refine jb_iload_n (pc' := 42) dX12_shouts_41 rfl rfl ?_
  refine jb_iastore (pc' := 43) (i9 := (28 + 6 * (V 0 2) + 1)) (f := (upd d (28 + 6 * (V 0 2) + 0) (nI (V 0 0)))) (h' := [s0, s1, s2, s3, s4, s5, s6, s7, s8, s9, jb_mdl I J (upd (upd d (28 + 6 * (V 0 2) + 0) (nI (V 0 0))) (28 + 6 * (V 0 2) + 1) (nI x)) e kp nm W, s11]) dX12_shouts_42 rfl (jb_ix_nI (by omega)) (by omega) rfl rfl ?_
  have hd2 : jd_ V (upd (upd d (28 + 6 * (V 0 2) + 0) (nI (V 0 0))) (28 + 6 * (V 0 2) + 1) (nI x)) := jd_o hd1 hk0 (by omega)
  refine jb_aload_n (pc' := 44) dX12_shouts_43 rfl rfl ?_
  refine gf_X12_7 (pc' := 47) (v := .ref 106) dX12_shouts_44 rfl rfl rfl ?_
  refine jb_iload (pc' := 49) dX12_shouts_47 rfl rfl ?_
  refine jb_iconst (pc' := 50) 2 dX12_shouts_49 (by decide) rfl ?_
  refine jb_iadd (pc' := 51) dX12_shouts_50 rfl ?_
  refine jb_top (v := .int ((nI (28 + 6 * (V 0 2))) + 2)) (w := .int (nI (28 + 6 * (V 0 2) + 2))) (jb_vI (nI_add _ 2)) ?_
  refine jb_aload_n (pc' := 52) dX12_shouts_51 rfl rfl ?_
  refine jb_iload_n (pc' := 53) dX12_shouts_52 rfl rfl ?_
  refine jb_iconst (pc' := 54) 2 dX12_shouts_53 (by decide) rfl ?_
  refine jb_callV (pc' := 57) (ci := 12) (q := 105) (As := [.int (nI x), .int 2]) (a2 := 0) (b2 := 0) wv_X12_145 rfl dX12_shouts_54 (c_of2 I J (upd (upd d (28 + 6 * (V 0 2) + 0) (nI (V 0 0))) (28 + 6 * (V 0 2) + 1) (nI x)) e kp nm W hd2 hk0 x (by omega)) rfl rfl ⟨by decide, Nat.le_of_eq (Nat.zero_add _), Nat.le_of_eq (Nat.zero_add _)⟩ (Nat.le_of_ble_eq_true rfl) rfl (fun r h9 hq => ?_)
  obtain ⟨rfl, rfl⟩ := hq
  show jb_J _ RX12 cX12_shouts 6 (Option.some .int) false 1 0 0 57 [some (.ref 105), some (.int (nI x)), some (.int (nI w)), some (.int (nI t - 1)), some (.int (nI (V 0 2))), some (.int (nI (28 + 6 * (V 0 2))))] [.int (nI (V 3 x)), .int (nI (28 + 6 * (V 0 2) + 2)), .ref 106] [s0, s1, s2, s3, s4, s5, s6, s7, s8, s9, jb_mdl I J (upd (upd d (28 + 6 * (V 0 2) + 0) (nI (V 0 0))) (28 + 6 * (V 0 2) + 1) (nI x)) e kp nm W, s11] _
  refine jb_iastore (pc' := 58) (i9 := (28 + 6 * (V 0 2) + 2)) (f := (upd (upd d (28 + 6 * (V 0 2) + 0) (nI (V 0 0))) (28 + 6 * (V 0 2) + 1) (nI x))) (h' := [s0, s1, s2, s3, s4, s5, s6, s7, s8, s9, jb_mdl I J (upd (upd (upd d (28 + 6 * (V 0 2) + 0) (nI (V 0 0))) (28 + 6 * (V 0 2) + 1) (nI x)) (28 + 6 * (V 0 2) + 2) (nI (V 3 x))) e kp nm W, s11]) dX12_shouts_57 rfl (jb_ix_nI (by omega)) (by omega) rfl rfl ?_
  have hd3 : jd_ V (upd (upd (upd d (28 + 6 * (V 0 2) + 0) (nI (V 0 0))) (28 + 6 * (V 0 2) + 1) (nI x)) (28 + 6 * (V 0 2) + 2) (nI (V 3 x))) := jd_o hd2 hk0 (by omega)
  refine jb_aload_n (pc' := 59) dX12_shouts_58 rfl rfl ?_
  refine gf_X12_7 (pc' := 62) (v := .ref 106) dX12_shouts_59 rfl rfl rfl ?_
  refine jb_iload (pc' := 64) dX12_shouts_62 rfl rfl ?_
  refine jb_iconst (pc' := 65) 3 dX12_shouts_64 (by decide) rfl ?_
  refine jb_iadd (pc' := 66) dX12_shouts_65 rfl ?_
  refine jb_top (v := .int ((nI (28 + 6 * (V 0 2))) + 3)) (w := .int (nI (28 + 6 * (V 0 2) + 3))) (jb_vI (nI_add _ 3)) ?_
  refine jb_iload_n (pc' := 67) dX12_shouts_66 rfl rfl ?_
  refine jb_iastore (pc' := 68) (i9 := (28 + 6 * (V 0 2) + 3)) (f := (upd (upd (upd d (28 + 6 * (V 0 2) + 0) (nI (V 0 0))) (28 + 6 * (V 0 2) + 1) (nI x)) (28 + 6 * (V 0 2) + 2) (nI (V 3 x)))) (h' := [s0, s1, s2, s3, s4, s5, s6, s7, s8, s9, jb_mdl I J (upd (upd (upd (upd d (28 + 6 * (V 0 2) + 0) (nI (V 0 0))) (28 + 6 * (V 0 2) + 1) (nI x)) (28 + 6 * (V 0 2) + 2) (nI (V 3 x))) (28 + 6 * (V 0 2) + 3) (nI w)) e kp nm W, s11]) dX12_shouts_67 rfl (jb_ix_nI (by omega)) (by omega) rfl rfl ?_
  have hd4 : jd_ V (upd (upd (upd (upd d (28 + 6 * (V 0 2) + 0) (nI (V 0 0))) (28 + 6 * (V 0 2) + 1) (nI x)) (28 + 6 * (V 0 2) + 2) (nI (V 3 x))) (28 + 6 * (V 0 2) + 3) (nI w)) := jd_o hd3 hk0 (by omega)
  refine jb_aload_n (pc' := 69) dX12_shouts_68 rfl rfl ?_
  refine gf_X12_7 (pc' := 72) (v := .ref 106) dX12_shouts_69 rfl rfl rfl ?_
  refine jb_iload (pc' := 74) dX12_shouts_72 rfl rfl ?_
  refine jb_iconst (pc' := 75) 4 dX12_shouts_74 (by decide) rfl ?_
  refine jb_iadd (pc' := 76) dX12_shouts_75 rfl ?_
  refine jb_top (v := .int ((nI (28 + 6 * (V 0 2))) + 4)) (w := .int (nI (28 + 6 * (V 0 2) + 4))) (jb_vI (nI_add _ 4)) ?_
  refine jb_iload_n (pc' := 77) dX12_shouts_76 rfl rfl ?_
  refine jb_iastore (pc' := 78) (i9 := (28 + 6 * (V 0 2) + 4)) (f := (upd (upd (upd (upd d (28 + 6 * (V 0 2) + 0) (nI (V 0 0))) (28 + 6 * (V 0 2) + 1) (nI x)) (28 + 6 * (V 0 2) + 2) (nI (V 3 x))) (28 + 6 * (V 0 2) + 3) (nI w))) (h' := [s0, s1, s2, s3, s4, s5, s6, s7, s8, s9, jb_mdl I J (upd (upd (upd (upd (upd d (28 + 6 * (V 0 2) + 0) (nI (V 0 0))) (28 + 6 * (V 0 2) + 1) (nI x)) (28 + 6 * (V 0 2) + 2) (nI (V 3 x))) (28 + 6 * (V 0 2) + 3) (nI w)) (28 + 6 * (V 0 2) + 4) (nI t - 1)) e kp nm W, s11]) dX12_shouts_77 rfl (jb_ix_nI (by omega)) (by omega) rfl rfl ?_
  have hd5 : jd_ V (upd (upd (upd (upd (upd d (28 + 6 * (V 0 2) + 0) (nI (V 0 0))) (28 + 6 * (V 0 2) + 1) (nI x)) (28 + 6 * (V 0 2) + 2) (nI (V 3 x))) (28 + 6 * (V 0 2) + 3) (nI w)) (28 + 6 * (V 0 2) + 4) (nI t - 1)) := jd_o hd4 hk0 (by omega)
  refine jb_aload_n (pc' := 79) dX12_shouts_78 rfl rfl ?_
  refine gf_X12_7 (pc' := 82) (v := .ref 106) dX12_shouts_79 rfl rfl rfl ?_
  refine jb_iload (pc' := 84) dX12_shouts_82 rfl rfl ?_
  refine jb_iconst (pc' := 85) 5 dX12_shouts_84 (by decide) rfl ?_
  refine jb_iadd (pc' := 86) dX12_shouts_85 rfl ?_
  refine jb_top (v := .int ((nI (28 + 6 * (V 0 2))) + 5)) (w := .int (nI (28 + 6 * (V 0 2) + 5))) (jb_vI (nI_add _ 5)) ?_
  refine jb_aload_n (pc' := 87) dX12_shouts_86 rfl rfl ?_
  refine gf_X12_7 (pc' := 90) (v := .ref 106) dX12_shouts_87 rfl rfl rfl ?_
  refine jb_iconst (pc' := 91) 3 dX12_shouts_90 (by decide) rfl ?_
  refine jb_iaload (pc' := 92) (i9 := 3) (f := (upd (upd (upd (upd (upd d (28 + 6 * (V 0 2) + 0) (nI (V 0 0))) (28 + 6 * (V 0 2) + 1) (nI x)) (28 + 6 * (V 0 2) + 2) (nI (V 3 x))) (28 + 6 * (V 0 2) + 3) (nI w)) (28 + 6 * (V 0 2) + 4) (nI t - 1))) dX12_shouts_91 rfl jb_x3 (by decide) rfl ?_
  refine jb_top (v := .int ((upd (upd (upd (upd (upd d (28 + 6 * (V 0 2) + 0) (nI (V 0 0))) (28 + 6 * (V 0 2) + 1) (nI x)) (28 + 6 * (V 0 2) + 2) (nI (V 3 x))) (28 + 6 * (V 0 2) + 3) (nI w)) (28 + 6 * (V 0 2) + 4) (nI t - 1)) 3)) (w := .int (nI (V 0 0))) (jb_vI hd5.2.2.2.1) ?_
  refine jb_aload_n (pc' := 93) dX12_shouts_92 rfl rfl ?_
  refine jb_callV (pc' := 96) (ci := 12) (q := 105) (As := []) (a2 := 0) (b2 := 0) wv_X12_171 rfl dX12_shouts_93 (c_gapm I J (upd (upd (upd (upd (upd d (28 + 6 * (V 0 2) + 0) (nI (V 0 0))) (28 + 6 * (V 0 2) + 1) (nI x)) (28 + 6 * (V 0 2) + 2) (nI (V 3 x))) (28 + 6 * (V 0 2) + 3) (nI w)) (28 + 6 * (V 0 2) + 4) (nI t - 1)) e kp nm W hd5 hk0) rfl rfl ⟨by decide, Nat.le_of_eq (Nat.zero_add _), Nat.le_of_eq (Nat.zero_add _)⟩ (Nat.le_of_ble_eq_true rfl) rfl (fun r h9 hq => ?_)
  obtain ⟨rfl, rfl⟩ := hq
  show jb_J _ RX12 cX12_shouts 6 (Option.some .int) false 1 0 0 96 [some (.ref 105), some (.int (nI x)), some (.int (nI w)), some (.int (nI t - 1)), some (.int (nI (V 0 2))), some (.int (nI (28 + 6 * (V 0 2))))] [.int (nI (V 0 4 + V 0 5)), .int (nI (V 0 0)), .int (nI (28 + 6 * (V 0 2) + 5)), .ref 106] [s0, s1, s2, s3, s4, s5, s6, s7, s8, s9, jb_mdl I J (upd (upd (upd (upd (upd d (28 + 6 * (V 0 2) + 0) (nI (V 0 0))) (28 + 6 * (V 0 2) + 1) (nI x)) (28 + 6 * (V 0 2) + 2) (nI (V 3 x))) (28 + 6 * (V 0 2) + 3) (nI w)) (28 + 6 * (V 0 2) + 4) (nI t - 1)) e kp nm W, s11] _
  refine jb_iadd (pc' := 97) dX12_shouts_96 rfl ?_
  refine jb_top (v := .int ((nI (V 0 0)) + (nI (V 0 4 + V 0 5)))) (w := .int (nI ((V 0 0) + (V 0 4 + V 0 5)))) (jb_vI (nI_add _ _)) ?_
  refine jb_iastore (pc' := 98) (i9 := (28 + 6 * (V 0 2) + 5)) (f := (upd (upd (upd (upd (upd d (28 + 6 * (V 0 2) + 0) (nI (V 0 0))) (28 + 6 * (V 0 2) + 1) (nI x)) (28 + 6 * (V 0 2) + 2) (nI (V 3 x))) (28 + 6 * (V 0 2) + 3) (nI w)) (28 + 6 * (V 0 2) + 4) (nI t - 1))) (h' := [s0, s1, s2, s3, s4, s5, s6, s7, s8, s9, jb_mdl I J (upd (upd (upd (upd (upd (upd d (28 + 6 * (V 0 2) + 0) (nI (V 0 0))) (28 + 6 * (V 0 2) + 1) (nI x)) (28 + 6 * (V 0 2) + 2) (nI (V 3 x))) (28 + 6 * (V 0 2) + 3) (nI w)) (28 + 6 * (V 0 2) + 4) (nI t - 1)) (28 + 6 * (V 0 2) + 5) (nI ((V 0 0) + (V 0 4 + V 0 5)))) e kp nm W, s11]) dX12_shouts_97 rfl (jb_ix_nI (by omega)) (by omega) rfl rfl ?_
  have hd6 : jd_ V (upd (upd (upd (upd (upd (upd d (28 + 6 * (V 0 2) + 0) (nI (V 0 0))) (28 + 6 * (V 0 2) + 1) (nI x)) (28 + 6 * (V 0 2) + 2) (nI (V 3 x))) (28 + 6 * (V 0 2) + 3) (nI w)) (28 + 6 * (V 0 2) + 4) (nI t - 1)) (28 + 6 * (V 0 2) + 5) (nI ((V 0 0) + (V 0 4 + V 0 5)))) := jd_o hd5 hk0 (by omega)
  refine jb_aload_n (pc' := 99) dX12_shouts_98 rfl rfl ?_
  refine gf_X12_7 (pc' := 102) (v := .ref 106) dX12_shouts_99 rfl rfl rfl ?_
  refine jb_iconst (pc' := 103) 5 dX12_shouts_102 (by decide) rfl ?_
  refine jb_dup2 (pc' := 104) dX12_shouts_103 rfl rfl rfl ?_
  refine jb_iaload (pc' := 105) (i9 := 5) (f := (upd (upd (upd (upd (upd (upd d (28 + 6 * (V 0 2) + 0) (nI (V 0 0))) (28 + 6 * (V 0 2) + 1) (nI x)) (28 + 6 * (V 0 2) + 2) (nI (V 3 x))) (28 + 6 * (V 0 2) + 3) (nI w)) (28 + 6 * (V 0 2) + 4) (nI t - 1)) (28 + 6 * (V 0 2) + 5) (nI ((V 0 0) + (V 0 4 + V 0 5))))) dX12_shouts_104 rfl jb_x5 (by decide) rfl ?_
  refine jb_top (v := .int ((upd (upd (upd (upd (upd (upd d (28 + 6 * (V 0 2) + 0) (nI (V 0 0))) (28 + 6 * (V 0 2) + 1) (nI x)) (28 + 6 * (V 0 2) + 2) (nI (V 3 x))) (28 + 6 * (V 0 2) + 3) (nI w)) (28 + 6 * (V 0 2) + 4) (nI t - 1)) (28 + 6 * (V 0 2) + 5) (nI ((V 0 0) + (V 0 4 + V 0 5)))) 5)) (w := .int (nI (V 0 2))) (jb_vI hd6.2.2.2.2.2.1) ?_
  refine jb_iconst (pc' := 106) 1 dX12_shouts_105 (by decide) rfl ?_
  refine jb_iadd (pc' := 107) dX12_shouts_106 rfl ?_
  refine jb_top (v := .int ((nI (V 0 2)) + 1)) (w := .int (nI ((V 0 2) + 1))) (jb_vI (nI_add _ 1)) ?_
  refine jb_iastore (pc' := 108) (i9 := 5) (f := (upd (upd (upd (upd (upd (upd d (28 + 6 * (V 0 2) + 0) (nI (V 0 0))) (28 + 6 * (V 0 2) + 1) (nI x)) (28 + 6 * (V 0 2) + 2) (nI (V 3 x))) (28 + 6 * (V 0 2) + 3) (nI w)) (28 + 6 * (V 0 2) + 4) (nI t - 1)) (28 + 6 * (V 0 2) + 5) (nI ((V 0 0) + (V 0 4 + V 0 5))))) (h' := [s0, s1, s2, s3, s4, s5, s6, s7, s8, s9, jb_mdl I J (upd (upd (upd (upd (upd (upd (upd d (28 + 6 * (V 0 2) + 0) (nI (V 0 0))) (28 + 6 * (V 0 2) + 1) (nI x)) (28 + 6 * (V 0 2) + 2) (nI (V 3 x))) (28 + 6 * (V 0 2) + 3) (nI w)) (28 + 6 * (V 0 2) + 4) (nI t - 1)) (28 + 6 * (V 0 2) + 5) (nI ((V 0 0) + (V 0 4 + V 0 5)))) 5 (nI ((V 0 2) + 1))) e kp nm W, s11]) dX12_shouts_107 rfl jb_x5 (by decide) rfl rfl ?_
  refine jb_iload (pc' := 110) dX12_shouts_108 rfl rfl ?_
  refine jb_iret dX12_shouts_110 rfl ?_
  obtain ⟨hf, -, -, -, -, -, -, -⟩ := jd_u6 (d := d) (n := V 0 2) (v0 := nI (V 0 0)) (v1 := nI x) (v2 := nI (V 3 x)) (v3 := nI w) (v4 := nI t - 1) (v5 := nI (V 0 0 + (V 0 4 + V 0 5))) (v6 := nI (V 0 2 + 1))
  exact ⟨rfl, (upd (upd (upd (upd (upd (upd (upd d (28 + 6 * (V 0 2) + 0) (nI (V 0 0))) (28 + 6 * (V 0 2) + 1) (nI x)) (28 + 6 * (V 0 2) + 2) (nI (V 3 x))) (28 + 6 * (V 0 2) + 3) (nI w)) (28 + 6 * (V 0 2) + 4) (nI t - 1)) (28 + 6 * (V 0 2) + 5) (nI ((V 0 0) + (V 0 4 + V 0 5)))) 5 (nI ((V 0 2) + 1))), jd_sh hd0 hk0 h2 x w t, hf 7 (by decide) (by omega), ⟨hf 8 (by decide) (by omega), hf 9 (by decide) (by omega), fun k hk => hf k (by omega) (by omega)⟩, rfl⟩
