/-! TeaJunction.rests, walked up to its ends: its two throws and its two answers -/
section RWALK
variable {R : Room} {Γ : GT} {Z : ZT} {μ : MI} {N0 cc ss pc N : Nat} {ls : List (Nat × Value)} {st : List Value} {h : HP}
theorem x_callVs {sta : List Value} {d1 : Nat} {μ1 : MI} {o ci idx n : Nat} {av : List Value} {w : Value} {h1 : HP} (hM : Mt d1 μ1 (.ref o :: av) N h (some w) N h1) (hd : decode μ.2.1 pc = .ok (.invokevirtual idx, 3)) (hc : CV μ.1.cls idx μ1 n) (hn : av.length = n) (ho : isO N o ci) (hci : RC ci = μ1.1.cls) (hdd : d1 + 1 ≤ R.frames ∧ 100 * (d1 + 1) ≤ R.locals) (hst : (st.map fun v => v.category).sum ≤ 8) (hNN : cc ≤ R.cells ∧ ss ≤ R.slots) (hsta : sta = av.reverse ++ .ref o :: st)
    {pc2 : Nat} (hp2 : pc + 3 = pc2) (k : Ex R Γ Z μ N0 cc ss pc2 N ls (w :: st) h1) : Ex R Γ Z μ N0 cc ss pc N ls sta h :=
  x_callV hM hd hc hn ho hci hdd hst hNN hsta hp2 k
theorem x_callSs {sta : List Value} {d1 : Nat} {μ1 : MI} {idx n : Nat} {av : List Value} {w : Value} {h1 : HP} (hM : Mt d1 μ1 av N h (some w) N h1) (hd : decode μ.2.1 pc = .ok (.invokestatic idx, 3)) (hc : CS μ.1.cls idx μ1 n) (hn : av.length = n) (hdd : d1 + 1 ≤ R.frames ∧ 100 * (d1 + 1) ≤ R.locals) (hst : (st.map fun v => v.category).sum ≤ 8) (hNN : cc ≤ R.cells ∧ ss ≤ R.slots) (hsta : sta = av.reverse ++ st)
    {pc2 : Nat} (hp2 : pc + 3 = pc2) (k : Ex R Γ Z μ N0 cc ss pc2 N ls (w :: st) h1) : Ex R Γ Z μ N0 cc ss pc N ls sta h :=
  x_callS hM hd hc hn hdd hst hNN hsta hp2 k
theorem x_callVn {sta : List Value} {d1 : Nat} {μ1 : MI} {o ci idx n : Nat} {av : List Value} {h1 : HP} (hM : Mt d1 μ1 (.ref o :: av) N h none N h1) (hd : decode μ.2.1 pc = .ok (.invokevirtual idx, 3)) (hc : CV μ.1.cls idx μ1 n) (hn : av.length = n) (ho : isO N o ci) (hci : RC ci = μ1.1.cls) (hdd : d1 + 1 ≤ R.frames ∧ 100 * (d1 + 1) ≤ R.locals) (hst : (st.map fun v => v.category).sum ≤ 8) (hNN : cc ≤ R.cells ∧ ss ≤ R.slots) (hsta : sta = av.reverse ++ .ref o :: st)
    {pc2 : Nat} (hp2 : pc + 3 = pc2) (k : Ex R Γ Z μ N0 cc ss pc2 N ls st h1) : Ex R Γ Z μ N0 cc ss pc N ls sta h :=
  x_callV hM hd hc hn ho hci hdd hst hNN hsta hp2 k
set_option maxRecDepth 20000 in
set_option maxHeartbeats 2000000 in
theorem rest_l39b (hR : 10 ≤ R.frames ∧ 1000 ≤ R.locals) (hcs : cc ≤ R.cells ∧ ss ≤ R.slots) (v1 v2 v3 v4 : Int32) (s : HS) {r : Option Int32}
    (hret : ∀ (q : Nat) (v : Int32) (ls : List (Nat × Value)), decode cX11_rests q = .ok (.ireturn, 1) → r = some v → Ex R Γ Z miX11_rests N0 cc ss q NF ls [.int v] (hp s))
    (k39 : Int32 → Int32 → Option (Option Int32)) (hk39 : ∀ a3 a4 : Int32, k39 a3 a4 = some r → Ex R Γ Z miX11_rests N0 cc ss 39 NF [(0, .ref 1), (1, .int v1), (2, .int v2), (3, .int a3), (4, .int a4)] [] (hp s))
    (k81 : Int32 → Option (Option Int32)) (hk81 : ∀ a3 : Int32, k81 a3 = some r → Ex R Γ Z miX11_rests N0 cc ss 81 NF [(2, .int v2), (3, .int a3)] [] (hp s))
    (hf : f_X11_rests_l39b v1 v2 v3 v4 k39 k81 s = some r) : Ex R Γ Z miX11_rests N0 cc ss 39 NF [(0, .ref 1), (1, .int v1), (2, .int v2), (3, .int v3), (4, .int v4)] [] (hp s) := by
  unfold f_X11_rests_l39b at hf
  refine x_iload dX11_rests_39 4 rfl (pc2 := 41) rfl ?_
  refine x_iload_n dX11_rests_41 1 rfl rfl (pc2 := 42) rfl ?_
  refine x_icmp_gt (tgt := 81) dX11_rests_42 (by decide) (pc2 := 45) rfl (fun c2 => ?_) (fun c2 => ?_)
  · have hf := if_t c2 hf
    exact xv_sub (ls' := [(2, .int v2), (3, .int v3)]) [2, 3] rfl (hk81 v3 hf)
  · have hf := if_f c2 hf
    refine x_iload dX11_rests_45 4 rfl (pc2 := 47) rfl ?_
    refine x_iload_n dX11_rests_47 1 rfl rfl (pc2 := 48) rfl ?_
    refine x_iconst (x := (-1)) dX11_rests_48 (by decide) (pc2 := 49) rfl ?_
    refine x_ixor dX11_rests_49 (pc2 := 50) rfl ?_
    refine x_iand dX11_rests_50 (pc2 := 51) rfl ?_
    refine x_if_ne (tgt := 75) dX11_rests_51 (by decide) (pc2 := 54) rfl (fun c3 => ?_) (fun c3 => ?_)
    · have hf := if_f c3 hf
      obtain ⟨x4, ex4, hf⟩ := ltb_s hf
      refine x_iinc dX11_rests_75 4 rfl (c9 := 1) (by decide) ex4.symm (by decide) (ls' := [(0, .ref 1), (1, .int v1), (2, .int v2), (3, .int v3), (4, .int x4)]) [1, 2, 3, 4, 0] rfl (pc2 := 78) rfl ?_
      refine x_goto (tgt := 39) dX11_rests_78 (by decide) ?_
      exact hk39 v3 x4 hf
    · have hf := if_t c3 hf
      refine x_aload_n dX11_rests_54 0 rfl rfl (pc2 := 55) rfl ?_
      refine x_iload_n dX11_rests_55 1 rfl rfl (pc2 := 56) rfl ?_
      refine x_iload dX11_rests_56 4 rfl (pc2 := 58) rfl ?_
      obtain ⟨y5, hy5, hf⟩ := bnd_s hf
      refine x_callVs (t_X11_isAtRest v1 v4 s hy5) dX11_rests_58 cv_X11_248 rfl so_1 rc_10 ⟨Nat.le_trans (by decide) hR.1, Nat.le_trans (by decide) hR.2⟩ (by first | exact Nat.le_of_ble_eq_true rfl | simp [rva_cat, vc_i, vc_r, vc_l, vc_n]) hcs rfl (pc2 := 61) rfl ?_
      refine x_if_eq (tgt := 75) dX11_rests_61 (by decide) (pc2 := 64) rfl (fun c6 => ?_) (fun c6 => ?_)
      · have hf := if_t c6 hf
        obtain ⟨x4, ex4, hf⟩ := ltb_s hf
        refine x_iinc dX11_rests_75 4 rfl (c9 := 1) (by decide) ex4.symm (by decide) (ls' := [(0, .ref 1), (1, .int v1), (2, .int v2), (3, .int v3), (4, .int x4)]) [1, 2, 3, 4, 0] rfl (pc2 := 78) rfl ?_
        refine x_goto (tgt := 39) dX11_rests_78 (by decide) ?_
        exact hk39 v3 x4 hf
      · have hf := if_f c6 hf
        refine x_iload_n dX11_rests_64 3 rfl rfl (pc2 := 65) rfl ?_
        refine x_iload_n dX11_rests_65 2 rfl rfl (pc2 := 66) rfl ?_
        refine x_icmp_ne (tgt := 72) dX11_rests_66 (by decide) (pc2 := 69) rfl (fun c7 => ?_) (fun c7 => ?_)
        · have hf := if_f c7 hf
          obtain ⟨x3, ex3, hf⟩ := ltb_s hf
          obtain ⟨x4, ex4, hf⟩ := ltb_s hf
          refine x_iinc dX11_rests_72 3 rfl (c9 := 1) (by decide) ex3.symm (by decide) (ls' := [(0, .ref 1), (1, .int v1), (2, .int v2), (3, .int x3), (4, .int v4)]) [1, 2, 3, 0, 4] rfl (pc2 := 75) rfl ?_
          refine x_iinc dX11_rests_75 4 rfl (c9 := 1) (by decide) ex4.symm (by decide) (ls' := [(0, .ref 1), (1, .int v1), (2, .int v2), (3, .int x3), (4, .int x4)]) [1, 2, 3, 4, 0] rfl (pc2 := 78) rfl ?_
          refine x_goto (tgt := 39) dX11_rests_78 (by decide) ?_
          exact hk39 x3 x4 hf
        · have hf := if_t c7 hf
          refine x_iload dX11_rests_69 4 rfl (pc2 := 71) rfl ?_
          refine hret 71 v4 _ dX11_rests_71 ?_
          exact (Option.some.inj hf).symm
set_option maxRecDepth 20000 in
set_option maxHeartbeats 2000000 in
theorem rest_l39 (hR : 10 ≤ R.frames ∧ 1000 ≤ R.locals) (hcs : cc ≤ R.cells ∧ ss ≤ R.slots) (v1 v2 : Int32) (s : HS) {r : Option Int32}
    (hret : ∀ (q : Nat) (v : Int32) (ls : List (Nat × Value)), decode cX11_rests q = .ok (.ireturn, 1) → r = some v → Ex R Γ Z miX11_rests N0 cc ss q NF ls [.int v] (hp s))
    (k81 : Int32 → Option (Option Int32)) (hk81 : ∀ a3 : Int32, k81 a3 = some r → Ex R Γ Z miX11_rests N0 cc ss 81 NF [(2, .int v2), (3, .int a3)] [] (hp s)) : ∀ (n : Nat) (v3 v4 : Int32), f_X11_rests_l39 v1 v2 k81 s n v3 v4 = some r → Ex R Γ Z miX11_rests N0 cc ss 39 NF [(0, .ref 1), (1, .int v1), (2, .int v2), (3, .int v3), (4, .int v4)] [] (hp s) := by
  intro n
  induction n with
  | zero =>
    intro v3 v4 hf
    have hf : none = some r := hf
    cases hf
  | succ n ih =>
    intro v3 v4 hf
    exact rest_l39b hR hcs v1 v2 v3 v4 s hret _ ih k81 hk81 hf
set_option maxRecDepth 20000 in
set_option maxHeartbeats 2000000 in
theorem rest_walk (hR : 10 ≤ R.frames ∧ 1000 ≤ R.locals) (hcs : cc ≤ R.cells ∧ ss ≤ R.slots) (v1 v2 : Int32) (s s' : HS) {r : Option Int32}
    (hret : ∀ (q : Nat) (v : Int32) (ls : List (Nat × Value)), decode cX11_rests q = .ok (.ireturn, 1) → r = some v → Ex R Γ Z miX11_rests N0 cc ss q NF ls [.int v] (hp s'))
    (hthr : ∀ (q : Nat) (ls : List (Nat × Value)), q = 21 ∨ q = 86 → r = none → Ex R Γ Z miX11_rests N0 cc ss q NF ls [] (hp s'))
    (hf : f_X11_rests v1 v2 s = some (r, s')) : Ex R Γ Z miX11_rests N0 cc ss 0 NF [(0, .ref 1), (1, .int v1), (2, .int v2)] [] (hp s) := by
  unfold f_X11_rests at hf
  refine x_aload_n dX11_rests_0 0 rfl rfl (pc2 := 1) rfl ?_
  refine x_iload_n dX11_rests_1 1 rfl rfl (pc2 := 2) rfl ?_
  obtain ⟨y1, hy1, hf⟩ := bnd_s hf
  refine x_callVs (t_X11_isSome v1 s hy1) dX11_rests_2 cv_X11_238 rfl so_1 rc_10 ⟨Nat.le_trans (by decide) hR.1, Nat.le_trans (by decide) hR.2⟩ (by first | exact Nat.le_of_ble_eq_true rfl | simp [rva_cat, vc_i, vc_r, vc_l, vc_n]) hcs rfl (pc2 := 5) rfl ?_
  refine x_if_eq (tgt := 21) dX11_rests_5 (by decide) (pc2 := 8) rfl (fun c2 => ?_) (fun c2 => ?_)
  · have hf := if_t c2 hf
    cases hf
    exact hthr 21 _ (Or.inl rfl) rfl
  · have hf := if_f c2 hf
    refine x_iload_n dX11_rests_8 1 rfl rfl (pc2 := 9) rfl ?_
    refine x_callSs (t_J6_bitCount_0f7a4 v1 s rfl) dX11_rests_9 cs_X11_215 rfl ⟨Nat.le_trans (by decide) hR.1, Nat.le_trans (by decide) hR.2⟩ (by first | exact Nat.le_of_ble_eq_true rfl | simp [rva_cat, vc_i, vc_r, vc_l, vc_n]) hcs rfl (pc2 := 12) rfl ?_
    refine x_iconst (x := 4) dX11_rests_12 (by decide) (pc2 := 13) rfl ?_
    refine x_icmp_gt (tgt := 21) dX11_rests_13 (by decide) (pc2 := 16) rfl (fun c3 => ?_) (fun c3 => ?_)
    · have hf := if_t c3 hf
      cases hf
      exact hthr 21 _ (Or.inl rfl) rfl
    · have hf := if_f c3 hf
      refine x_iload_n dX11_rests_16 2 rfl rfl (pc2 := 17) rfl ?_
      refine x_iconst (x := (-1)) dX11_rests_17 (by decide) (pc2 := 18) rfl ?_
      refine x_icmp_ge (tgt := 29) dX11_rests_18 (by decide) (pc2 := 21) rfl (fun c4 => ?_) (fun c4 => ?_)
      · have c4' : ¬ v2 < (-1) := Int32.not_lt.mpr c4
        have hf := if_f c4' hf
        refine x_aload_n dX11_rests_29 0 rfl rfl (pc2 := 30) rfl ?_
        refine x_iload_n dX11_rests_30 1 rfl rfl (pc2 := 31) rfl ?_
        obtain ⟨s5, hs5, hf⟩ := bnd_s hf
        obtain ⟨r6, hr6, hf⟩ := bnd_s hf
        have e5 : s5 = s' := congrArg Prod.snd (Option.some.inj hf)
        have e6 : r6 = r := congrArg Prod.fst (Option.some.inj hf)
        subst e5
        subst e6
        refine x_callVn (t_X11_fillGains v1 s hs5) dX11_rests_31 cv_X11_244 rfl so_1 rc_10 ⟨Nat.le_trans (by decide) hR.1, Nat.le_trans (by decide) hR.2⟩ (by first | exact Nat.le_of_ble_eq_true rfl | simp [rva_cat, vc_i, vc_r, vc_l, vc_n]) hcs rfl (pc2 := 34) rfl ?_
        refine x_iconst (x := 0) dX11_rests_34 (by decide) (pc2 := 35) rfl ?_
        refine x_istore_n dX11_rests_35 rfl (by decide) rfl (ls' := [(0, .ref 1), (1, .int v1), (2, .int v2), (3, .int 0)]) [1, 2, 3, 0] rfl (pc2 := 36) rfl ?_
        refine x_iconst (x := 0) dX11_rests_36 (by decide) (pc2 := 37) rfl ?_
        refine x_istore dX11_rests_37 (by decide) rfl (ls' := [(0, .ref 1), (1, .int v1), (2, .int v2), (3, .int 0), (4, .int 0)]) [1, 2, 3, 4, 0] rfl (pc2 := 39) rfl ?_
        refine rest_l39 hR hcs v1 v2 s5 hret _ ?_ FU 0 0 hr6
        intro a3 h81
        refine x_iload_n dX11_rests_81 0 rfl rfl (pc2 := 82) rfl ?_
        refine x_iconst (x := (-1)) dX11_rests_82 (by decide) (pc2 := 83) rfl ?_
        refine x_icmp_eq (tgt := 94) dX11_rests_83 (by decide) (pc2 := 86) rfl (fun c7 => ?_) (fun c7 => ?_)
        · have h81 := if_t c7 h81
          refine x_iload_n dX11_rests_94 1 rfl rfl (pc2 := 95) rfl ?_
          exact hret 95 a3 _ dX11_rests_95 (Option.some.inj h81).symm
        · have h81 := if_f c7 h81
          exact hthr 86 _ (Or.inr rfl) (Option.some.inj h81).symm
      · have c4' : v2 < (-1) := Int32.not_le.mp c4
        have hf := if_t c4' hf
        cases hf
        exact hthr 21 _ (Or.inl rfl) rfl
end RWALK
