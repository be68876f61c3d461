theorem jb_eqR {args : Array Value} {s : State} {t u : Term} {a b : Nat} (h : (Cond.eq t u).before args s = true) (ht : t.eval args s none [] s = some (.ref a)) (hu : u.eval args s none [] s = some (.ref b)) : a = b := by
  simp only [Cond.before, Cond.holds, Cond.value, ht, hu] at h
  simpa using h
def jb_rho (b t1 : Nat) (adK adV : Nat → Nat) : Nat → Nat
  | 0 => b
  | 1 => t1
  | 2 => adK 0
  | 3 => adK 1
  | 4 => adV 0
  | _ => adV 1
def jb_tcf (a0 a1 a2 a3 a4 : ClassId) : Nat → ClassId
  | 0 => a0
  | 1 => a1
  | 2 => a2
  | 3 => a3
  | _ => a4
set_option maxRecDepth 100000 in
set_option maxHeartbeats 4000000 in
theorem jb_first {s : State} {b L : Nat} {xs : Nat → Int32} (hts : ∀ w ∈ lw_tbl, w.before #[Value.ref b] s = true) (hX : va_X b L xs s s.heap) (hbl : b < s.heap.size) (hgv : (Jvm.Cond.and given_1 narrow_1).before #[Value.ref b] s = true) : ∃ (ρ : Nat → Nat) (tc : Nat → ClassId) (D : va_G), ρ 0 = b ∧ jb_G s.heap.size ρ tc D (L, xs) s := by
  have hA : ∀ a : Nat, a < s.heap.size → ¬ s.heap.size ≤ a := fun a h q => by omega
  have hs := flat_of_before _ hgv
  have hN : jb_N s := fun w hw => va_Nw.of (jb_on (List.mem_filter.mp hw).2) (hts w (List.mem_filter.mp hw).1)
  have hu : ∀ w ∈ jb_T, w.before #[Value.ref b] s = true := fun w hw => hN.use hw
  obtain ⟨c0, i0, k0⟩ := u_known (C := RX0) (T := TX0) (N := 4) hu jb_inX0 (hu _ jb_im_X0)
  obtain ⟨c1, i1, k1⟩ := u_known (C := RX1) (T := TX1) (N := 0) hu jb_inX1 (hu _ jb_im_X1)
  obtain ⟨c2, i2, k2⟩ := u_known (C := RX2) (T := TX2) (N := 0) hu jb_inX2 (hu _ jb_im_X2)
  obtain ⟨c3, i3, k3⟩ := u_known (C := RX3) (T := TX3) (N := 0) hu jb_inX3 (hu _ jb_im_X3)
  obtain ⟨c4, i4, k4⟩ := u_known (C := RX4) (T := TX4) (N := 0) hu jb_inX4 (hu _ jb_im_X4)
  obtain ⟨c5, i5, k5⟩ := u_known (C := RX5) (T := TX5) (N := 0) hu jb_inX5 (hu _ jb_im_X5)
  obtain ⟨c6, i6, k6⟩ := u_known (C := RX6) (T := TX6) (N := 0) hu jb_inX6 (hu _ jb_im_X6)
  obtain ⟨c7, i7, k7⟩ := u_known (C := RX7) (T := TX7) (N := 0) hu jb_inX7 (hu _ jb_im_X7)
  obtain ⟨c8, i8, k8⟩ := u_known (C := RX8) (T := TX8) (N := 8) hu jb_inX8 (hu _ jb_im_X8)
  obtain ⟨c9, i9, k9⟩ := u_known (C := RX9) (T := TX9) (N := 17) hu jb_inX9 (hu _ jb_im_X9)
  obtain ⟨c10, i10, k10⟩ := u_known (C := RX10) (T := TX10) (N := 10) hu jb_inX10 (hu _ jb_im_X10)
  obtain ⟨c11, i11, k11⟩ := u_known (C := RX11) (T := TX11) (N := 8) hu jb_inX11 (hu _ jb_im_X11)
  obtain ⟨c12, i12, k12⟩ := u_known (C := RX12) (T := TX12) (N := 26) hu jb_inX12 (hu _ jb_im_X12)
  obtain ⟨a0, ka0, p0, f0, g0, l0⟩ := Cond.arrayClass_spec (hts (.arrayClass .int) (by decide +kernel))
  obtain ⟨a1, ka1, p1, f1, g1, l1⟩ := Cond.arrayClass_spec (hts (.arrayClass .byte) (by decide +kernel))
  have o2 : (Cond.arrayOver (.array .int)).before #[Value.ref b] s = true := hts _ (by decide +kernel)
  have o3 : (Cond.arrayOver (.object "DeafBell$Pupil")).before #[Value.ref b] s = true := hts _ (by decide +kernel)
  have o4 : (Cond.arrayOver (.object "DeafBell$Sheet")).before #[Value.ref b] s = true := hts _ (by decide +kernel)
  obtain ⟨p2, a2, ka2, f2, -, g2, l2, n2⟩ := arrayOverA_spec o2
  obtain ⟨p3, a3, ka3, f3, -, g3, l3, n3⟩ := Cond.arrayOver_spec o3
  obtain ⟨p4, a4, ka4, f4, -, g4, l4, n4⟩ := Cond.arrayOver_spec o4
  obtain ⟨t1, e1, hT1⟩ := va_Tof (tm := (.static "DeafBell" "KIND_ABOVE" "[I")) (ty := .int) (N := 7) (f := jb_kab) (A := fun q => s.heap.size ≤ q) (by decide) (hs _ (by decide +kernel)) (va_eqt (hs (Cond.eq (.length (.static "DeafBell" "KIND_ABOVE" "[I")) (.int 7)) (by decide +kernel))) (fun j hj => by
    match j, hj with
    | 0, _ => exact va_eqt (hs (Cond.eq (.elem (.static "DeafBell" "KIND_ABOVE" "[I") (.int 0)) (.int (-1))) (by decide +kernel))
    | 1, _ => exact va_eqt (hs (Cond.eq (.elem (.static "DeafBell" "KIND_ABOVE" "[I") (.int 1)) (.int (0))) (by decide +kernel))
    | 2, _ => exact va_eqt (hs (Cond.eq (.elem (.static "DeafBell" "KIND_ABOVE" "[I") (.int 2)) (.int (0))) (by decide +kernel))
    | 3, _ => exact va_eqt (hs (Cond.eq (.elem (.static "DeafBell" "KIND_ABOVE" "[I") (.int 3)) (.int (0))) (by decide +kernel))
    | 4, _ => exact va_eqt (hs (Cond.eq (.elem (.static "DeafBell" "KIND_ABOVE" "[I") (.int 4)) (.int (1))) (by decide +kernel))
    | 5, _ => exact va_eqt (hs (Cond.eq (.elem (.static "DeafBell" "KIND_ABOVE" "[I") (.int 5)) (.int (2))) (by decide +kernel))
    | 6, _ => exact va_eqt (hs (Cond.eq (.elem (.static "DeafBell" "KIND_ABOVE" "[I") (.int 6)) (.int (3))) (by decide +kernel))) hA
  have hZ1 := va_Zref (A := fun q => s.heap.size ≤ q) (hts (.laysStatic "DeafBell" "KIND_ABOVE" "[I") (by decide +kernel)) (hts (.initialized "DeafBell") (by decide +kernel)) e1 hA
  have hZ2 := va_Zof (A := fun q => s.heap.size ≤ q) (hts (.laysStatic "java/lang/String" "COMPACT_STRINGS" "Z") (by decide +kernel)) (hts (.initialized "java/lang/String") (by decide +kernel)) (va_eqt (hs (Cond.eq (.static "java/lang/String" "COMPACT_STRINGS" "Z") (.int 1)) (by decide +kernel))) hA
  obtain ⟨adK, adV, hS, hE⟩ := vk_Sof (args := #[Value.ref b]) (s := s) (N := 2) (tm := fun i => match i with | 0 => (.string "DeafBell" 136) | _ => (.string "DeafBell" 138)) (len := [4, 3]) (byt := [[119, 102, 105, 107], [119, 109, 99]]) (A := fun q => s.heap.size ≤ q) (fun i hi => by
    match i, hi with
    | 0, _ => decide
    | 1, _ => decide) (fun i hi => by
    match i, hi with
    | 0, _ => exact hs (Cond.exactly (.string "DeafBell" 136) "java/lang/String") (by decide +kernel)
    | 1, _ => exact hs (Cond.exactly (.string "DeafBell" 138) "java/lang/String") (by decide +kernel)) (fun i hi => by
    match i, hi with
    | 0, _ => exact hs (Cond.eq (.field (.string "DeafBell" 136) "java/lang/String" "coder" "B") (.int 0)) (by decide +kernel)
    | 1, _ => exact hs (Cond.eq (.field (.string "DeafBell" 138) "java/lang/String" "coder" "B") (.int 0)) (by decide +kernel)) (fun i hi => by
    match i, hi with
    | 0, _ => exact hs (Cond.arrayOf (.field (.string "DeafBell" 136) "java/lang/String" "value" "[B") .byte) (by decide +kernel)
    | 1, _ => exact hs (Cond.arrayOf (.field (.string "DeafBell" 138) "java/lang/String" "value" "[B") .byte) (by decide +kernel)) (fun i hi => by
    match i, hi with
    | 0, _ => exact hs (Cond.eq (.length (.field (.string "DeafBell" 136) "java/lang/String" "value" "[B")) (.int 4)) (by decide +kernel)
    | 1, _ => exact hs (Cond.eq (.length (.field (.string "DeafBell" 138) "java/lang/String" "value" "[B")) (.int 3)) (by decide +kernel)) (fun i hi j hj => by
    match i, hi, j, hj with
    | 0, _, 0, _ => exact hs (Cond.eq (.elem (.field (.string "DeafBell" 136) "java/lang/String" "value" "[B") (.int 0)) (.int 119)) (by decide +kernel)
    | 0, _, 1, _ => exact hs (Cond.eq (.elem (.field (.string "DeafBell" 136) "java/lang/String" "value" "[B") (.int 1)) (.int 102)) (by decide +kernel)
    | 0, _, 2, _ => exact hs (Cond.eq (.elem (.field (.string "DeafBell" 136) "java/lang/String" "value" "[B") (.int 2)) (.int 105)) (by decide +kernel)
    | 0, _, 3, _ => exact hs (Cond.eq (.elem (.field (.string "DeafBell" 136) "java/lang/String" "value" "[B") (.int 3)) (.int 107)) (by decide +kernel)
    | 1, _, 0, _ => exact hs (Cond.eq (.elem (.field (.string "DeafBell" 138) "java/lang/String" "value" "[B") (.int 0)) (.int 119)) (by decide +kernel)
    | 1, _, 1, _ => exact hs (Cond.eq (.elem (.field (.string "DeafBell" 138) "java/lang/String" "value" "[B") (.int 1)) (.int 109)) (by decide +kernel)
    | 1, _, 2, _ => exact hs (Cond.eq (.elem (.field (.string "DeafBell" 138) "java/lang/String" "value" "[B") (.int 2)) (.int 99)) (by decide +kernel)) (fun i j hi hj hne => by
    match i, hi, j, hj, hne with
    | 0, _, 0, _, hne => exact absurd rfl hne
    | 1, _, 1, _, hne => exact absurd rfl hne
    | 0, _, 1, _, _ => exact Or.inl (hs (Cond.not (Cond.eq (.string "DeafBell" 136) (.string "DeafBell" 138))) (by decide +kernel))
    | 1, _, 0, _, _ => exact Or.inr (hs (Cond.not (Cond.eq (.string "DeafBell" 136) (.string "DeafBell" 138))) (by decide +kernel))) hA
  have q0 : (Term.string "DeafBell" 136).eval #[Value.ref b] s none [] s = some (.ref (adK 0)) := hE 0 (by decide)
  have q1 : (Term.string "DeafBell" 138).eval #[Value.ref b] s none [] s = some (.ref (adK 1)) := hE 1 (by decide)
  obtain ⟨a9, cc9, cA9, kA9, q9, -⟩ := Cond.exactly_spec (args := #[Value.ref b]) (first := s) (o := none) (s := s) (idx := []) (t := .string "DeafBell$Reader" 35) (cls := "java/lang/String") (hs (Cond.exactly (.string "DeafBell$Reader" 35) "java/lang/String") (by decide +kernel))
  have e9 : a9 = adK 0 := jb_eqR (hs (Cond.eq (.string "DeafBell$Reader" 35) (.string "DeafBell" 136)) (by decide +kernel)) q9 q0
  subst e9
  have r1 : vk_R "DeafBell$Reader" 35 "wfik" (adK 0) s := vk_R.of (A := #[Value.ref b]) (hts _ (by decide +kernel)) q9
  have r2 : vk_R "DeafBell" 136 "wfik" (adK 0) s := vk_R.of (A := #[Value.ref b]) (hts _ (by decide +kernel)) q0
  have r3 : vk_R "DeafBell" 138 "wmc" (adK 1) s := vk_R.of (A := #[Value.ref b]) (hts _ (by decide +kernel)) q1
  have hS2 : vk_S 2 [4, 3] [[119, 102, 105, 107], [119, 109, 99]] (fun i => jb_rho b t1 adK adV (2 + i)) (fun i => jb_rho b t1 adK adV (4 + i)) (fun q => s.heap.size ≤ q) s s.heap := by
    refine ⟨fun i hi => ?_, fun i j hi hj e => ?_⟩
    · match i, hi with
      | 0, _ => exact hS.1 0 (by decide)
      | 1, _ => exact hS.1 1 (by decide)
    · match i, hi, j, hj, e with
      | 0, _, 0, _, _ => rfl
      | 1, _, 1, _, _ => rfl
      | 0, _, 1, _, e => exact hS.2 0 1 (by decide) (by decide) e
      | 1, _, 0, _, e => exact hS.2 1 0 (by decide) (by decide) e
  refine ⟨jb_rho b t1 adK adV, jb_tcf a0 a1 a2 a3 a4, (fun c => match c with | 0 => c0 | 1 => c1 | 2 => c2 | 3 => c3 | 4 => c4 | 5 => c5 | 6 => c6 | 7 => c7 | 8 => c8 | 9 => c9 | 10 => c10 | 11 => c11 | _ => c12, fun c => match c with | 0 => i0 | 1 => i1 | 2 => i2 | 3 => i3 | 4 => i4 | 5 => i5 | 6 => i6 | 7 => i7 | 8 => i8 | 9 => i9 | 10 => i10 | 11 => i11 | _ => i12), rfl, ⟨fun c q hq => ?_, fun k q hk => ?_⟩, hN, ⟨Nat.le_refl _, hbl, hX, hZ1, hT1, r1, r2, r3, hS2, hZ2⟩, hts (.arrayClass .int) (by decide +kernel), va_AO.of o3, va_AO.of o4, o2⟩
  · match c, hq with
    | 0, hq => cases hq; exact k0
    | 1, hq => cases hq; exact k1
    | 2, hq => cases hq; exact k2
    | 3, hq => cases hq; exact k3
    | 4, hq => cases hq; exact k4
    | 5, hq => cases hq; exact k5
    | 6, hq => cases hq; exact k6
    | 7, hq => cases hq; exact k7
    | 8, hq => cases hq; exact k8
    | 9, hq => cases hq; exact k9
    | 10, hq => cases hq; exact k10
    | 11, hq => cases hq; exact k11
    | 12, hq => cases hq; exact k12
    | c + 13, hq => cases hq
  · match k, hk with
    | 0, hk => cases hk; exact ⟨fun n z => ⟨fun k h => (by cases h), ka0, g0, p0, l0⟩, f0⟩
    | 1, hk => cases hk; exact ⟨fun n z => ⟨fun k h => (by cases h), ka1, g1, p1, l1⟩, f1⟩
    | 2, hk => cases hk; exact ⟨fun n z => ⟨fun k h => (by cases h), ka2, g2, p2, l2⟩, n2⟩
    | 3, hk => cases hk; exact ⟨fun n z => ⟨fun k h => (by cases h), ka3, g3, p3, l3⟩, ⟨ka3, p3, g3, l3, f3, n3⟩⟩
    | 4, hk => cases hk; exact ⟨fun n z => ⟨fun k h => (by cases h), ka4, g4, p4, l4⟩, ⟨ka4, p4, g4, l4, f4, n4⟩⟩
    | k + 5, hk => cases hk
