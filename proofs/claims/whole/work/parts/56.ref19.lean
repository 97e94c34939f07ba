section Ref19
variable {g : ZG} {l : Launch} {Kd : ZK} {Rd : ZR} {n s0 : Nat} {J P : Nat → Nat → Int}
theorem row_step {J J1 : Nat → Nat → Int} {i : Int} (hi : -1 ≤ i) (hr : ∀ q : Nat, q < 3 → ((q : Int) ≤ i → J1 58 q = J 58 q) ∧ (i < (q : Int) → J 58 q = -(J 57 q) ∧ J1 58 q = J 57 q)) (h : 0 ≤ i ∧ J 58 i.toNat = -(J 57 i.toNat)) : ∀ q : Nat, q < 3 → ((q : Int) ≤ i + -1 → zup J1 58 i.toNat (J 57 i.toNat) 58 q = J 58 q) ∧ (i + -1 < (q : Int) → J 58 q = -(J 57 q) ∧ zup J1 58 i.toNat (J 57 i.toNat) 58 q = J 57 q) := by
  intro q hq
  have h1 := hr q hq
  by_cases e : q = i.toNat
  · subst e; rw [zz]; exact ⟨fun z => absurd z (by omega), fun _ => ⟨h.2, rfl⟩⟩
  · rw [zzi e]; exact ⟨fun z => h1.1 (by omega), fun z => h1.2 (by omega)⟩
theorem row_dec {J J1 : Nat → Nat → Int} {i : Int} {rest : List V4} (hS : RowSt J rest) (hre : rest = rAft (J 57 0) (J 57 1) (J 57 2) (J 58 0) (J 58 1) (J 58 2)) (hi : -1 ≤ i ∧ i ≤ 2) (hi0 : 0 ≤ i) (hoff : ∀ a, a ≠ 58 → J1 a = J a) (hr : ∀ q : Nat, q < 3 → ((q : Int) ≤ i → J1 58 q = J 58 q) ∧ (i < (q : Int) → J 58 q = -(J 57 q) ∧ J1 58 q = J 57 q)) (hg : -(J 57 i.toNat) < J 58 i.toNat) (hf : J 42 26 = 0) : ∃ rest', rest = (zup J1 58 i.toNat (J 58 i.toNat - 1) 58 0, zup J1 58 i.toNat (J 58 i.toNat - 1) 58 1, zup J1 58 i.toNat (J 58 i.toNat - 1) 58 2, 0) :: rest' ∧ RowSt (zup J1 58 i.toNat (J 58 i.toNat - 1)) rest' := by
  have s0 := hS.1 0 (by omega)
  have s1 := hS.1 1 (by omega)
  have s2 := hS.1 2 (by omega)
  have r0 := hr 0 (by omega)
  have r1 := hr 1 (by omega)
  have r2 := hr 2 (by omega)
  have e57 : J1 57 = J 57 := hoff 57 (by decide)
  unfold RowSt
  rw [zup_ne (show (57 : Nat) ≠ 58 by decide), zup_ne (show (42 : Nat) ≠ 58 by decide), hoff 42 (by decide), e57]
  rcases (show i = 0 ∨ i = 1 ∨ i = 2 by omega) with e | e | e
  · subst e
    have a1 := r1.2 (by decide)
    have a2 := r2.2 (by decide)
    rw [show (0 : Int).toNat = 0 from rfl] at *
    rw [zz, zzi (by decide), zzi (by decide), a1.2, a2.2]
    refine ⟨_, by rw [hre]; exact rAft_0 a2.1 s2.1 a1.1 s1.1 hg, fun q hq => ?_, Or.inr ⟨hf, rfl⟩⟩
    rcases (show q = 0 ∨ q = 1 ∨ q = 2 by omega) with e | e | e <;> subst e
    · rw [zz]; omega
    · rw [zzi (by decide), a1.2]; omega
    · rw [zzi (by decide), a2.2]; omega
  · subst e
    have a0 := r0.1 (by decide)
    have a2 := r2.2 (by decide)
    rw [show (1 : Int).toNat = 1 from rfl] at *
    rw [zz, zzi (by decide), zzi (by decide), a0, a2.2]
    refine ⟨_, by rw [hre]; exact rAft_1 a2.1 s2.1 hg, fun q hq => ?_, Or.inr ⟨hf, rfl⟩⟩
    rcases (show q = 0 ∨ q = 1 ∨ q = 2 by omega) with e | e | e <;> subst e
    · rw [zzi (by decide), a0]; omega
    · rw [zz]; omega
    · rw [zzi (by decide), a2.2]; omega
  · subst e
    have a0 := r0.1 (by decide)
    have a1 := r1.1 (by decide)
    rw [show (2 : Int).toNat = 2 from rfl] at *
    rw [zz, zzi (by decide), zzi (by decide), a0, a1]
    refine ⟨_, by rw [hre]; exact rAft_2 hg, fun q hq => ?_, Or.inr ⟨hf, rfl⟩⟩
    rcases (show q = 0 ∨ q = 1 ∨ q = 2 by omega) with e | e | e <;> subst e
    · rw [zzi (by decide), a0]; omega
    · rw [zzi (by decide), a1]; omega
    · rw [zz]; omega
set_option maxHeartbeats 4000000 in
set_option maxRecDepth 100000 in
theorem cMX9_nextRow {rest : List V4} (hS : RowSt J rest) : ZC g l MX9_nextRow [.ref 42] (KF Kd, zi J, zj P, RF Rd, n, s0) (fun rr hh => ∃ J' b, hh = (KF Kd, zi J', zj P, RF Rd, n, s0) ∧ rr = some (.int (iZ b)) ∧ ((b = 1 ∧ ∃ rest', rest = (J' 58 0, J' 58 1, J' 58 2, 0) :: rest' ∧ RowSt J' rest') ∨ (b = 0 ∧ rest = [])) ∧ (∀ a, a ≠ 58 → a ≠ 42 → J' a = J a) ∧ (∀ q, q ≠ 26 → J' 42 q = J 42 q)) := by
  refine ZC.of (by decide) (Nat.le_of_ble_eq_true rfl) ?_
  generalize hQ0 : (fun rr hh => ∃ J' b, hh = (KF Kd, zi J', zj P, RF Rd, n, s0) ∧ rr = some (.int (iZ b)) ∧ ((b = 1 ∧ ∃ rest', rest = (J' 58 0, J' 58 1, J' 58 2, 0) :: rest' ∧ RowSt J' rest') ∨ (b = 0 ∧ rest = [])) ∧ (∀ a, a ≠ 58 → a ≠ 42 → J' a = J a) ∧ (∀ q, q ≠ 26 → J' 42 q = J 42 q) : Option Value → ZH → Prop) = Q0
  show Z g l MX9_nextRow 0 [some (.ref 42), none] [] (KF Kd, zi J, zj P, RF Rd, n, s0) Q0
  have hf : J 42 26 = 1 ∨ J 42 26 = 0 := by rcases hS.2 with h | h; exact Or.inl h.1; exact Or.inr h.1
  have d0 := hS.1 0 (by omega)
  have d1 := hS.1 1 (by omega)
  have d2 := hS.1 2 (by omega)
  refine z_aload_n dX9_nextRow_0 rfl rfl ?_
  refine c_getI (ci := 9) (kf := 26) dX9_nextRow_1 rfl (by decide) (by decide) rfl w_802 ?_
  refine c_if_eq (tgt := 14) dX9_nextRow_4 (by decide) (by omega) (fun h4 => ?_) (fun h4 => ?_)
  · have hre := (hS.2.resolve_left (fun z => by have := z.1; omega)).2
    refine c_iconst dX9_nextRow_14 ?_
    refine z_istore_n dX9_nextRow_15 rfl (by decide) rfl ?_
    have L16 : ∀ (m16 : Nat), ∀ (i : Int) (J1 : Nat → Nat → Int), (i + 1).toNat = m16 → (-1 ≤ i ∧ i ≤ 2) → (∀ a, a ≠ 58 → J1 a = J a) → (∀ q : Nat, q < 3 → ((q : Int) ≤ i → J1 58 q = J 58 q) ∧ (i < (q : Int) → J 58 q = -(J 57 q) ∧ J1 58 q = J 57 q)) → Z g l MX9_nextRow 16 [some (.ref 42), some (.int (iZ i))] [] (KF Kd, zi J1, zj P, RF Rd, n, s0) Q0 := by
      intro m16
      induction m16 using Nat.strongRecOn with
      | ind m16 ih16 =>
        intro i J1 hm16 hi hoff hr
        refine z_iload_n dX9_nextRow_16 rfl rfl ?_
        refine c_if_lt (tgt := 54) dX9_nextRow_17 (by decide) (by omega) (fun h17 => ?_) (fun h17 => ?_)
        · refine z_iload_n dX9_nextRow_54 rfl rfl ?_
          refine c_if_ge (tgt := 60) dX9_nextRow_55 (by decide) (by omega) (fun h55 => ?_) (fun h55 => ?_)
          · have hri := hr i.toNat (by omega)
            have hsi := hS.1 i.toNat (by omega)
            have e57 : J1 57 = J 57 := hoff 57 (by decide)
            have e58 : J1 58 i.toNat = J 58 i.toNat := hri.1 (by omega)
            refine z_aload_n dX9_nextRow_60 rfl rfl ?_
            refine z_getR (ci := 9) (kf := 25) dX9_nextRow_61 rfl (by decide) (by decide) rfl w_801 rfl ?_
            refine z_iload_n dX9_nextRow_64 rfl rfl ?_
            refine z_dup2 dX9_nextRow_65 rfl rfl ?_
            refine c_iald dX9_nextRow_66 rfl (by omega) (by decide) ?_
            rw [e58]
            refine c_iconst dX9_nextRow_67 ?_
            refine c_isub dX9_nextRow_68 ?_
            refine c_iast dX9_nextRow_69 rfl (by omega) (by decide) ?_
            refine c_iconst dX9_nextRow_70 ?_
            refine c_zreturn dX9_nextRow_71 rfl (by omega) ?_
            first | (exfalso; omega) | (subst hQ0; refine ⟨_, _, rfl, rfl, Or.inl ⟨rfl, row_dec hS hre hi (by omega) hoff hr (by omega) (by omega)⟩, fun a a1 _ => by rw [zup_ne a1]; exact hoff a a1, fun q _ => by rw [zup_ne (by decide), hoff 42 (by decide)]⟩)
          · refine c_iconst dX9_nextRow_58 ?_
            refine c_zreturn dX9_nextRow_59 rfl (by omega) ?_
            subst hQ0; refine ⟨_, _, rfl, rfl, Or.inr ⟨rfl, ?_⟩, fun a a1 _ => hoff a a1, fun q _ => by rw [hoff 42 (by decide)]⟩
            rw [hre]; exact rAft_nil ((hr 2 (by omega)).2 (by omega)).1 ((hr 1 (by omega)).2 (by omega)).1 ((hr 0 (by omega)).2 (by omega)).1
        · have hri := hr i.toNat (by omega)
          have hsi := hS.1 i.toNat (by omega)
          have e57 : J1 57 = J 57 := hoff 57 (by decide)
          have e58 : J1 58 i.toNat = J 58 i.toNat := hri.1 (by omega)
          refine z_aload_n dX9_nextRow_20 rfl rfl ?_
          refine z_getR (ci := 9) (kf := 25) dX9_nextRow_21 rfl (by decide) (by decide) rfl w_801 rfl ?_
          refine z_iload_n dX9_nextRow_24 rfl rfl ?_
          refine c_iald dX9_nextRow_25 rfl (by omega) (by decide) ?_
          rw [e58]
          refine z_aload_n dX9_nextRow_26 rfl rfl ?_
          refine z_getR (ci := 9) (kf := 24) dX9_nextRow_27 rfl (by decide) (by decide) rfl w_800 rfl ?_
          refine z_iload_n dX9_nextRow_30 rfl rfl ?_
          refine c_iald dX9_nextRow_31 rfl (by omega) (by decide) ?_
          rw [e57]
          refine c_ineg dX9_nextRow_32 ?_
          refine c_icmp_ne (tgt := 54) dX9_nextRow_33 (by decide) (by omega) (by omega) (fun h33 => ?_) (fun h33 => ?_)
          · refine z_iload_n dX9_nextRow_54 rfl rfl ?_
            refine c_if_ge (tgt := 60) dX9_nextRow_55 (by decide) (by omega) (fun h55 => ?_) (fun h55 => ?_)
            · have hri := hr i.toNat (by omega)
              have hsi := hS.1 i.toNat (by omega)
              have e57 : J1 57 = J 57 := hoff 57 (by decide)
              have e58 : J1 58 i.toNat = J 58 i.toNat := hri.1 (by omega)
              refine z_aload_n dX9_nextRow_60 rfl rfl ?_
              refine z_getR (ci := 9) (kf := 25) dX9_nextRow_61 rfl (by decide) (by decide) rfl w_801 rfl ?_
              refine z_iload_n dX9_nextRow_64 rfl rfl ?_
              refine z_dup2 dX9_nextRow_65 rfl rfl ?_
              refine c_iald dX9_nextRow_66 rfl (by omega) (by decide) ?_
              rw [e58]
              refine c_iconst dX9_nextRow_67 ?_
              refine c_isub dX9_nextRow_68 ?_
              refine c_iast dX9_nextRow_69 rfl (by omega) (by decide) ?_
              refine c_iconst dX9_nextRow_70 ?_
              refine c_zreturn dX9_nextRow_71 rfl (by omega) ?_
              first | (exfalso; omega) | (subst hQ0; refine ⟨_, _, rfl, rfl, Or.inl ⟨rfl, row_dec hS hre hi (by omega) hoff hr (by omega) (by omega)⟩, fun a a1 _ => by rw [zup_ne a1]; exact hoff a a1, fun q _ => by rw [zup_ne (by decide), hoff 42 (by decide)]⟩)
            · refine c_iconst dX9_nextRow_58 ?_
              refine c_zreturn dX9_nextRow_59 rfl (by omega) ?_
              subst hQ0; refine ⟨_, _, rfl, rfl, Or.inr ⟨rfl, ?_⟩, fun a a1 _ => hoff a a1, fun q _ => by rw [hoff 42 (by decide)]⟩
              rw [hre]; exact rAft_nil ((hr 2 (by omega)).2 (by omega)).1 ((hr 1 (by omega)).2 (by omega)).1 ((hr 0 (by omega)).2 (by omega)).1
          · refine z_aload_n dX9_nextRow_36 rfl rfl ?_
            refine z_getR (ci := 9) (kf := 25) dX9_nextRow_37 rfl (by decide) (by decide) rfl w_801 rfl ?_
            refine z_iload_n dX9_nextRow_40 rfl rfl ?_
            refine z_aload_n dX9_nextRow_41 rfl rfl ?_
            refine z_getR (ci := 9) (kf := 24) dX9_nextRow_42 rfl (by decide) (by decide) rfl w_800 rfl ?_
            refine z_iload_n dX9_nextRow_45 rfl rfl ?_
            refine c_iald dX9_nextRow_46 rfl (by omega) (by decide) ?_
            rw [e57]
            refine c_iast dX9_nextRow_47 rfl (by omega) (by decide) ?_
            refine c_iinc dX9_nextRow_48 rfl (by decide) rfl ?_
            refine z_goto (tgt := 16) dX9_nextRow_51 (by decide) ?_
            exact Z.fg2 (ih16 _ (by omega) _ _ rfl (by omega) (fun a ha => by rw [zup_ne ha]; exact hoff a ha) (row_step hi.1 hr (by omega))) (zs1 rfl (zs1 rfl zs0))
    exact Z.fg2 (L16 _ _ _ rfl (by omega) (fun _ _ => rfl) (fun q hq => ⟨fun _ => rfl, fun h => absurd h (by omega)⟩)) (zs1 rfl (zs1 rfl zs0))
  · refine z_aload_n dX9_nextRow_7 rfl rfl ?_
    refine c_iconst dX9_nextRow_8 ?_
    refine c_putZ (ci := 9) (kf := 26) dX9_nextRow_9 rfl (by decide) (by decide) rfl (by decide) (by omega) w_802 ?_
    refine c_iconst dX9_nextRow_12 ?_
    refine c_zreturn dX9_nextRow_13 rfl (by omega) ?_
    subst hQ0; refine ⟨_, _, rfl, rfl, Or.inl ⟨rfl, ?_⟩, fun a _ a2 => by rw [zup_ne a2], fun q hq => by rw [zzi hq]⟩
    have hre := (hS.2.resolve_right (fun z => by have := z.1; omega)).2
    refine ⟨_, ?_, ?_, Or.inr ⟨zz, rfl⟩⟩
    · rw [zup_ne (by decide), zup_ne (by decide)]; exact hre
    · rw [zup_ne (by decide), zup_ne (by decide)]; exact hS.1
end Ref19
