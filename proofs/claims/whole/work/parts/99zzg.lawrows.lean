/-! Rows of the law: its script is the pseudo-object 500; its call of the static rests -/
def GW (b L : Nat) (xs : Nat → Int32) : GT := fun l s _ ad0 A => l.stackTraces = false ∧ RXq A s s.heap ∧ ad0 500 = b ∧ va_X b L xs s s.heap ∧ b < s.heap.size ∧ ¬ A b
section LAWROWS
variable {R : Room} {Z : ZT} {μ : MI} {cc ss pc N : Nat} {ls : List (Nat × Value)} {st : List Value} {h : HP} {b L : Nat} {xs : Nat → Int32}
theorem x_sld {i : Int32} {x : Int32} (hd : decode μ.2.1 pc = .ok (.iaload, 1)) (hN : N < 500) (hi : vp_in i L) (hx : xs i.toNatClampNeg = x) {pc2 : Nat} (hp2 : pc + 1 = pc2) (k : Ex R (GW b L xs) Z μ 0 cc ss pc2 N ls (.int x :: st) h) : Ex R (GW b L xs) Z μ 0 cc ss pc N ls (.int i :: .ref 500 :: st) h := by
  subst hp2
  subst hx
  intro p l e s m args below meth c D cA ad0 ad A H locs lsA C Y G sw P Dj S L9
  have hk := k p l e s m args below meth c D cA ad0 ad A H locs lsA C Y G sw P Dj S L9
  have hb : ad 500 = b := (G 500 (by omega)).trans Y.2.2.1
  show W p l e R s m args below meth c H locs cc ss (Z below D cA ad0 A args s) (F0 m pc lsA (.int i :: .ref (ad 500) :: st.map (cv ad)))
  rw [hb]
  exact va_sld C.1 C.2.1 Y.2.2.2.1 Y.2.2.2.2.1 Y.2.2.2.2.2 S hi hd hk
theorem x_slen (hd : decode μ.2.1 pc = .ok (.arraylength, 1)) (hN : N < 500) {x : Int32} (hx : Int32.ofNat L = x) {pc2 : Nat} (hp2 : pc + 1 = pc2) (k : Ex R (GW b L xs) Z μ 0 cc ss pc2 N ls (.int x :: st) h) : Ex R (GW b L xs) Z μ 0 cc ss pc N ls (.ref 500 :: st) h := by
  subst hp2
  subst hx
  intro p l e s m args below meth c D cA ad0 ad A H locs lsA C Y G sw P Dj S L9
  have hk := k p l e s m args below meth c D cA ad0 ad A H locs lsA C Y G sw P Dj S L9
  have hb : ad 500 = b := (G 500 (by omega)).trans Y.2.2.1
  show W p l e R s m args below meth c H locs cc ss (Z below D cA ad0 A args s) (F0 m pc lsA (.ref (ad 500) :: st.map (cv ad)))
  rw [hb]
  exact va_slen C.1 C.2.1 Y.2.2.2.1 Y.2.2.2.2.1 Y.2.2.2.2.2 S hd hk
theorem tgc {w : Cond} (h : decide (w ∈ tables_1) = true) (g : goodWord w = true) : w ∈ TG ∧ ((w.onTables && w.keeps) = true ∨ ∃ ty, w = .arrayClass ty) := TG_good (tgk h g)
theorem lr_good : GoodIn TG (va_wsS RL 79 yL_rests wsLR) := by
  intro w hw
  unfold va_wsS at hw
  rcases List.mem_append.mp hw with q | q
  · simp only [List.mem_cons, List.not_mem_nil, or_false] at q
    rcases q with rfl | rfl | rfl
    · exact tgc (by decide +kernel) rfl
    · exact tgc (by decide +kernel) rfl
    · exact tgc (by decide +kernel) rfl
  · rcases List.mem_cons.mp q with rfl | q
    · exact tgc (by decide +kernel) rfl
    · exact TG_good q
theorem x_lrest {r : Option Int32} {s0 s' : HS} {v w : Int32} (hf : f_X11_rests v w s0 = some (r, s')) (hμ : μ.1.cls = RL) (hd : decode μ.2.1 pc = .ok (.invokestatic 79, 3)) (hR : 15 ≤ R.frames ∧ 1500 ≤ R.locals) (hNN : cc + 1 ≤ R.cells ∧ ss + 6 ≤ R.slots) (hst : (st.map fun v => v.category).sum ≤ 8)
    {c2 s2 : Nat} (hc2 : cc + 1 = c2) (hs2 : ss + 6 = s2) {pc2 : Nat} (hp2 : pc + 3 = pc2) (k : Ex R (GW b L xs) Z μ 0 c2 s2 pc2 NF ls (.int (lrV r) :: st) (hp (lrO r s'))) : Ex R (GW b L xs) Z μ 0 cc ss pc NF ls (.ref 158 :: .int w :: .int v :: .ref 1 :: st) (hp s0) := by
  subst hp2
  subst hc2
  subst hs2
  intro p l e s m args below meth c D cA ad0 ad A H locs lsA C Y G sw P Dj S L9
  have hA := e_free Dj S C.2.2.2.2.2.2.2.2.2
  have hown : s.vm.findClass RL = some m.cls := by rw [← hμ]; exact C.2.2.2.2.1
  have hcw : vx_CSW R s args RL 79 yL_rests cL_rests 5 (some .int) lrH wsLR (rmo 14 1 6) 1 6 4 := by
    refine vx_cwSW (Ts := TG) (ws' := TG) 4 C.2.2.2.2.2.1 lr_good rfl rfl rfl ⟨by decide +kernel, by decide +kernel, by decide +kernel⟩ ⟨hR.1, Nat.le_trans (show 8 + (5 + 11) + 1400 ≤ 1500 by decide) hR.2⟩
  have hM := lrest_met hf Y.1 D cA ad H.size
  have hrun := vx_runSX (l := l) (e := e) (R := R) (below := below) (meth := meth) (locs := locs) (cells := cc) (slots := ss) (g := F0 m pc lsA (.ref (ad 158) :: .int w :: .int v :: .ref (ad 1) :: st.map (cv ad))) (rest := st.map (cv ad)) (As := [.ref (ad 1), .int v, .int w, .ref (ad 158)]) (H := H) (Ts := TG) ⟨C.1, C.2.1, C.2.2.2.1, hown, C.2.2.2.2.2.1⟩ hM hcw
    ⟨PWX.blind, fun U hU hW => ⟨rfl, e_pw C.2.2.2.2.2.2.2.2.2 C.2.2.2.2.2.2.2.2.1 sw P Dj S hU hW, by rw [hU]; exact ((Y.2.1.kept S.2.1).narrow hA).moved hW.alike⟩⟩ rfl rfl L9.1 rfl (hstx hst) hd hNN
  intro T hT X
  rcases hrun T hT X with ⟨v9, st₀, t, T', L8, h0, X', hL, e1, e2, ⟨⟨y, u, hv, hy, hP, hK, hD⟩, hF⟩, hgo⟩ | ⟨q, st₀, t, T', L8, E, ce, h0, X', hL, e1, e2, hfalse, -⟩
  · cases hv
    obtain rfl : y = lrV r := hy
    obtain ⟨k1, k2, k3⟩ := vx_keep h0 e1 S (fun q _ z => hA q z) hA hL hF
    obtain ⟨t2, a1, b1⟩ := k p l e s m args below meth c D cA ad0 ad A T'.heap (locs ++ L8) lsA C Y G sw (by rw [e1]; exact hP) (hD.weaken (fun _ _ _ q => hA _ q)) k3 L9 T' rfl X'
    exact ⟨t2, hgo t2 a1, b1⟩
  · exact hfalse.elim
end LAWROWS
