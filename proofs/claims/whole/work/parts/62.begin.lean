def jc_V : Nat → Nat → Nat := fun r j => if r = 0 ∧ j = 4 then 7 else 0
theorem jc_S : jS (fun _ => none) jc_V 0 0 jc_I jc_W jc_T jc_d [] := by
  have z : ∀ {P : Nat → Prop} (k : Nat), k < 0 → P k := fun k hk => absurd hk (Nat.not_lt_zero _)
  refine ⟨⟨rfl, rfl, rfl, rfl, rfl, rfl, rfl, z, z, z⟩, ⟨rfl, rfl, rfl, rfl, rfl, rfl, rfl, z, z, z⟩, ⟨by decide, by decide, by decide, by decide, by decide, by decide, by decide, by decide, z, z, z⟩, by decide, rfl, rfl, rfl, by decide, z, z, rfl, rfl, by decide, z, fun u hu => Or.inl ⟨rfl, rfl⟩, fun u hu => Or.inl ⟨rfl, ?_⟩⟩
  match u, hu with
  | 0, _ => rfl
  | 1, _ => rfl
theorem jc_h (s : Nat) : jh1 jc_0 jc_0 jc_Z s := ⟨0, 0, rfl, rfl, Or.inl rfl, rfl, rfl, by decide, fun _ _ => rfl⟩
theorem jc_fst : jF 0 0 jc_I jc_W jc_T jc_I jc_W jc_T jc_0 jc_0 jc_0 jc_0 jc_0 jc_0 jc_0 jc_0 jc_0 jc_0 jc_0 jc_0 jc_d jc_0 jc_Z [] :=
  ⟨⟨_, _, _, _, jc_S⟩, Or.inl rfl, rfl, fun _ _ => rfl, ⟨0, by decide, rfl, rfl, fun _ _ => rfl⟩, jc_h 0, jc_h 1, jc_h 2, jc_h 3, Nat.le_refl _⟩
set_option maxRecDepth 100000 in
set_option maxHeartbeats 4000000 in
theorem l_start {sc : Nat × (Nat → Int32)} (hs : sc.1 ≤ 384) : jb_J sc RL cL_law 4 (Option.some .boolean) false 62 185 6839 0 [some (.ref 1000000), none, none, none] [] [[], [], [], [], [], [], [], [], [], [], [], []] (fun r _ => r = some (.int 1)) := by
  refine jb_new (pc' := 3) (ci := 11) (k := 0) (C := RX11) (T := TX11) (N := 8) (ty := tyX11) (fs := [.null, .null, .null, .null, .null, .null, .null, .int 0]) (h' := [[.inr (11, [.null, .null, .null, .null, .null, .null, .null, .int 0])], [], [], [], [], [], [], [], [], [], [], []]) (a2 := 184) (b2 := 6831) rfl jb_inX11 tyX11_ok jb_cl_L_7 jb_im_X11 jb_it_X11 jb_dfX11 dL_law_0 ⟨rfl, Or.inl rfl, by decide⟩ (jb_adds rfl rfl rfl) (by decide) (by decide) rfl ?_
  refine jb_dup (pc' := 4) dL_law_3 rfl rfl ?_
  refine jb_callI (pc' := 7) (q := 0) (As := []) (a2 := 80) (b2 := 5029) wv_L_9 dL_law_4 c_X11_init rfl rfl ⟨by decide, by decide, by decide⟩ (Nat.le_of_ble_eq_true rfl) rfl (fun r h9 hq => ?_)
  obtain ⟨rfl, rfl⟩ := hq
  show jb_J sc RL cL_law 4 (Option.some .boolean) false 62 80 5029 7 [some (.ref 1000000), none, none, none] [.ref 0] [jb_main 0 jc_0 (fun _ => .ref 1000002) jc_0 jc_0 jc_0, jb_sch13 jc_I jc_W jc_T, jb_sch33 jc_I jc_W jc_T, jb_sch53 jc_I jc_W jc_T, jb_shs, jb_sht74 jc_0 jc_0 jc_0 jc_Z, jb_sht81 jc_0 jc_0 jc_0 jc_Z, jb_sht88 jc_0 jc_0 jc_0 jc_Z, jb_sht95 jc_0 jc_0 jc_0 jc_Z, jb_act jc_0 jc_0 jc_0, [], []] (fun r _ => r = some (.int 1))
  refine jb_astore_n_ (pc' := 8) dL_law_7 (by decide) (jb_at1 rfl) rfl ?_
  refine jb_new (pc' := 11) (ci := 12) (k := 105) (C := RX12) (T := TX12) (N := 26) (ty := tyX12) (fs := [.null, .null, .null, .int 0, .null, .int 0, .int 0, .int 0, .int 0, .int 0, .int 0, .null, .null, .null, .null, .null, .null, .null, .int 0, .null, .null, .int 0, .null, .null, .int 0, .int 0]) (h' := [jb_main 0 jc_0 (fun _ => .ref 1000002) jc_0 jc_0 jc_0, jb_sch13 jc_I jc_W jc_T, jb_sch33 jc_I jc_W jc_T, jb_sch53 jc_I jc_W jc_T, jb_shs, jb_sht74 jc_0 jc_0 jc_0 jc_Z, jb_sht81 jc_0 jc_0 jc_0 jc_Z, jb_sht88 jc_0 jc_0 jc_0 jc_Z, jb_sht95 jc_0 jc_0 jc_0 jc_Z, jb_act jc_0 jc_0 jc_0, [.inr (12, [.null, .null, .null, .int 0, .null, .int 0, .int 0, .int 0, .int 0, .int 0, .int 0, .null, .null, .null, .null, .null, .null, .null, .int 0, .null, .null, .int 0, .null, .null, .int 0, .int 0])], []]) (a2 := 79) (b2 := 5003) rfl jb_inX12 tyX12_ok jb_cl_L_10 jb_im_X12 jb_it_X12 jb_dfX12 dL_law_8 ⟨rfl, Or.inr ⟨_, rfl⟩, by decide⟩ (jb_adds rfl rfl rfl) (by decide) (by decide) rfl ?_
  refine jb_dup (pc' := 12) dL_law_11 rfl rfl ?_
  refine jb_callI (pc' := 15) (q := 105) (As := []) (a2 := 64) (b2 := 3200) wv_L_12 dL_law_12 c_X12_init rfl rfl ⟨by decide, by decide, by decide⟩ (Nat.le_of_ble_eq_true rfl) rfl (fun r h9 hq => ?_)
  obtain ⟨rfl, rfl⟩ := hq
  show jb_J sc RL cL_law 4 (Option.some .boolean) false 62 64 3200 15 [some (.ref 1000000), some (.ref 0), none, none] [.ref 105] [jb_main 0 jc_0 (fun _ => .ref 1000002) jc_0 jc_0 jc_0, jb_sch13 jc_I jc_W jc_T, jb_sch33 jc_I jc_W jc_T, jb_sch53 jc_I jc_W jc_T, jb_shs, jb_sht74 jc_0 jc_0 jc_0 jc_Z, jb_sht81 jc_0 jc_0 jc_0 jc_Z, jb_sht88 jc_0 jc_0 jc_0 jc_Z, jb_sht95 jc_0 jc_0 jc_0 jc_Z, jb_act jc_0 jc_0 jc_0, jb_mdl jc_0 jc_0 jc_d jc_0 jc_0 jc_0 jc_Z, []] (fun r _ => r = some (.int 1))
  refine jb_astore_n_ (pc' := 16) dL_law_15 (by decide) (jb_at2 rfl) rfl ?_
  refine jb_iconst (pc' := 17) 0 dL_law_16 (by decide) rfl ?_
  refine jb_istore_n_ (pc' := 18) dL_law_17 (by decide) (jb_at3 rfl) rfl ?_
  exact l_law hs 64 0 0 _ (by omega) (by omega) (by omega) (jI.of jc_fst)
