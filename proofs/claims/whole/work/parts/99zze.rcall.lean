/-! A call of TeaJunction.rests: it returns or throws -/
theorem tgk {w : Cond} (h : decide (w ∈ tables_1) = true) (g : goodWord w = true) : w ∈ TG := TG_in (List.mem_append_right _ (of_decide_eq_true h)) g
theorem cv_L_7 : CV RL 7 miX11_rests 2 := ⟨⟨tgk (by decide +kernel) rfl, tgk (by decide +kernel) rfl, tgk (by decide +kernel) rfl, ⟨by decide +kernel, by decide +kernel, by decide +kernel⟩, by decide⟩, tgk (by decide +kernel) rfl, tgk (by decide +kernel) rfl⟩
theorem PWX.blind {D : va_G} {cA : Nat → ClassId} {ad : Nat → Nat} {N : Nat} {h : HP} {sz : Nat} {av : List Value} : FrameBlind (va_Pc av (PWX D cA ad N h sz)) := by
  intro a U g mk q
  obtain ⟨q0, ⟨q1, qP, qK, qD, qS⟩, qX⟩ := q
  exact ⟨q0, ⟨q1, qP, va_K.moved (u := U) (U := U.calling g mk a) (Vm.Alike.refl U.vm) qK, qD, SW.moved (u := U) (U := U.calling g mk a) (Vm.Alike.refl U.vm) qS.1, NWp.same (u := U) (U := U.calling g mk a) rfl qS.2⟩, RXq.moved (u := U) (U := U.calling g mk a) (Vm.Alike.refl U.vm) qX⟩
section RCALL
variable {R : Room} {μ : MI} {p : Program} {l : Launch} {e : Env} {s : State} {m : MethodId} {args : Array Value} {below : List Frame} {meth : Method} {c : Code} {D : va_G} {cA : Nat → ClassId} {ad : Nat → Nat} {A : Nat → Prop} {H : Heap} {locs : List Loc} {lsA : Array Slot} {cc ss pc idx : Nat} {Q : State → Prop} {r : Option Int32} {s0 s' : HS} {v w : Int32} {st : List Value}
theorem wx_rests (C : Cx p s m args meth c D cA A μ) (hl : l.stackTraces = false) (hX : RXq A s s.heap) (sw : SWN (adW ad) A s s.heap) (P : va_P D vwCl (wl cA ad NF (hp s0)) H) (Dj : va_D A (wl cA ad NF (hp s0))) (S : va_S A s.heap H locs) (hsz : lsA.size = μ.2.2.1)
    (hd : decode μ.2.1 pc = .ok (.invokevirtual idx, 3)) (hc : CV μ.1.cls idx miX11_rests 2) (hf : f_X11_rests v w s0 = some (r, s')) (hR : 13 ≤ R.frames ∧ 1300 ≤ R.locals) (hNN : cc + 1 ≤ R.cells ∧ ss + 6 ≤ R.slots) (hst : (st.map fun v => v.category).sum ≤ 8)
    (kx : r = none → ∀ (H1 : Heap) (locs1 : List Loc) (q : Addr) (ce : Cell), va_P D vwCl (wl cA ad NF (hp s')) H1 → va_D A (wl cA ad NF (hp s')) → va_S A s.heap H1 locs1 → H1[q]? = some ce → ce.vm = .none → s.vm.findClass rx_E = some ce.cls → vx_W p l e R s m args below meth c H1 locs1 (cc + 1) (ss + 6) Q (F0 m pc lsA (st.map (cv ad))) q)
    (kk : ∀ x, r = some x → ∀ (H1 : Heap) (locs1 : List Loc), va_P D vwCl (wl cA ad NF (hp s')) H1 → va_D A (wl cA ad NF (hp s')) → va_S A s.heap H1 locs1 → W p l e R s m args below meth c H1 locs1 (cc + 1) (ss + 6) Q (F0 m (pc + 3) lsA (.int x :: st.map (cv ad)))) :
    W p l e R s m args below meth c H locs cc ss Q (F0 m pc lsA (.int w :: .int v :: .ref (ad 1) :: st.map (cv ad))) := by
  obtain ⟨⟨c1, c2, c3, c4, c5⟩, c6, c7⟩ := hc
  have hcw : CallW R s args μ.1.cls RX11 idx yX11_rests cX11_rests 5 (some .int) (wsG miX11_rests) (rmo 12 1 6) 1 6 2 := by
    refine cwV (Ts := TG) 2 C.2.2.2.2.2.1 ?_ rfl rfl rfl ⟨rfl, c4⟩ ⟨hR.1, Nat.le_trans (show 8 + (5 + 11) + 1200 ≤ 1300 by decide) hR.2⟩
    intro w hw
    refine TG_good ?_
    unfold wsV at hw
    rcases List.mem_append.mp hw with q | q
    · simp only [List.mem_cons, List.not_mem_nil, or_false] at q
      rcases q with q | q | q | q <;> rw [q] <;> assumption
    · exact wsG_good c1 q
  obtain ⟨Cn, T, nn, hc9⟩ : ∃ (Cn : String) (T : u_T) (nn : Nat), vwCl[10]? = some (Cn, T, nn) := by
    obtain ⟨r, hr, -⟩ := P (1 - 1) _ (wl_o so_1)
    exact ⟨_, _, _, hr⟩
  have hRC : Cn = RX11 := by rw [← (rc_10 : RC 10 = RX11)]; simp only [RC, List.getD_eq_getElem?_getD, List.getElem?_map, hc9]; rfl
  have hrecv := va_recv C.2.2.2.2.2.2.2.2.1 P hc9 (wl_o so_1)
  rw [show (Cn, T, nn).1 = RX11 from hRC] at hrecv
  have hM := rests_met hf hl D cA ad H.size
  have hrun := vx_runV (l := l) (e := e) (R := R) (below := below) (meth := meth) (locs := locs) (cells := cc) (slots := ss) (g := F0 m pc lsA (.int w :: .int v :: .ref (ad 1) :: st.map (cv ad))) (rest := st.map (cv ad)) (As := [.int v, .int w]) (b := ad 1) (H := H) ⟨C.1, C.2.1, C.2.2.2.1, C.2.2.2.2.1, C.2.2.2.2.2.1⟩ hM hcw
    ⟨PWX.blind, hrecv, fun U hU hW => ⟨rfl, e_pw C.2.2.2.2.2.2.2.2.2 C.2.2.2.2.2.2.2.2.1 sw P Dj S hU hW, by rw [hU]; exact ((hX.kept S.2.1).narrow (e_free Dj S C.2.2.2.2.2.2.2.2.2)).moved hW.alike⟩⟩ rfl rfl hsz rfl (hstx hst) hd hNN
  refine vx_calli hrun S (fun q _ z => e_free Dj S C.2.2.2.2.2.2.2.2.2 q z) (e_free Dj S C.2.2.2.2.2.2.2.2.2) (fun q _ z => e_free Dj S C.2.2.2.2.2.2.2.2.2 q z) ?_ ?_
  · intro E ce q9 u t H1 locs1 hH hal hr hB hz hk S1 hce hcv hcl
    obtain ⟨rfl, hP, hK, hD⟩ := hB
    subst hH
    exact kx hr _ locs1 q9 ce hP (hD.weaken (fun _ _ _ q => e_free Dj S C.2.2.2.2.2.2.2.2.2 _ q)) S1 hce hcv hcl
  · intro x u t H1 locs1 hH hal hr hB hz hk S1
    obtain ⟨hP, hK, hD⟩ := hB
    subst hH
    exact kk x hr _ locs1 hP (hD.weaken (fun _ _ _ q => e_free Dj S C.2.2.2.2.2.2.2.2.2 _ q)) S1
end RCALL
