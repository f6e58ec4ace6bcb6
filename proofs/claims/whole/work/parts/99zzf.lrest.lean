/-! The law's static rests: 1 where TeaJunction.rests throws, else 0 with its answer at place 0 of the law's array -/
def lrO (r : Option Int32) (s' : HS) : HS := match r with | some x => sL s' 158 0 x.toInt64 | none => s'
def lrV (r : Option Int32) : Int32 := match r with | some _ => 0 | none => 1
def lrH : List (Nat × Nat × Nat × Nat) := [(0, 10, 13, 13)]
def wsLR : List Cond := .codeWith yL_rests cL_rests 5 (some .int) lrH :: TG
def GLx : GT := fun l s c _ A => l.stackTraces = false ∧ RXq A s s.heap ∧ c.exceptionTable.toList = tableOf lrH
def QLx (D : va_G) (cA : Nat → ClassId) (ad : Nat → Nat) (x : Int32) (s' : HS) (A : Nat → Prop) (a : Array Value) : Array Value → State → Outcome → State → Prop := va_Qi (S := Unit) (fun y _ => y = x) (fun _ t => RXB D cA ad s' A t) A
def ZLx (r : Option Int32) (s' : HS) : ZT := fun below D cA ad0 A args s => vx_MQ below (QLx D cA ad0 (lrV r) (lrO r s') A args) (fun _ _ _ => False) args s 1 6 A
section LREST
variable {R : Room} {r : Option Int32} {s0 s' : HS} {v w : Int32}
theorem lrest_walk (hR : 13 ≤ R.frames ∧ 1300 ≤ R.locals) (hcs : 1 ≤ R.cells ∧ 6 ≤ R.slots) (hf : f_X11_rests v w s0 = some (r, s')) : Ex R GLx (ZLx r s') miL_rests NF 0 0 0 NF [(0, .ref 1), (1, .int v), (2, .int w), (3, .ref 158)] [] (hp s0) := by
  refine x_aload_n dL_rests_0 3 rfl rfl (pc2 := 1) rfl ?_
  refine x_iconst (x := 0) dL_rests_1 (by decide) (pc2 := 2) rfl ?_
  refine x_aload_n dL_rests_2 0 rfl rfl (pc2 := 3) rfl ?_
  refine x_iload_n dL_rests_3 1 rfl rfl (pc2 := 4) rfl ?_
  refine x_iload_n dL_rests_4 2 rfl rfl (pc2 := 5) rfl ?_
  intro p l e s m args below meth c D cA ad0 ad A H locs lsA C Y G sw P Dj S L
  have e2 := G.eq
  subst e2
  refine wx_rests (μ := miL_rests) (st := [.int 0, .ref 158]) C Y.1 Y.2.1 sw P Dj S L.1 dL_rests_5 cv_L_7 hf hR ⟨by omega, by omega⟩ (by decide) ?_ ?_
  · intro hr H1 locs1 q ce P1 D1 S1 hce hcv hcl
    subst hr
    refine vx_catch (own := RL) (name := rx_E) (E := rx_E) C.2.2.2.2.1 [] ⟨0, 10, 13, 13⟩ [] (Y.2.2.trans rfl) (fun z hz => by cases hz) (by decide) (by decide)
      (C.2.2.2.2.2.1 _ (tgk (by decide +kernel) rfl)) (Y.2.1.1.at (Vm.Alike.refl _) (by decide) args) hce hcv hcl ?_
    refine lv_astore C.1 C.2.1 dL_rests_13 L (by decide) rfl (fun ls' L' => ?_)
    refine lv_iconst (v := 1) C.1 C.2.1 dL_rests_15 (by decide) ?_
    refine vx_ret ?_
    refine W.iret C.1 C.2.1 (C.2.2.1.trans rfl) (fun t ht hW => ⟨⟨1, (), rfl, rfl, ?_, va_K.moved hW.alike C.2.2.2.2.2.2.2.2.1, D1⟩, S1.F ht⟩) S1.2.2 dL_rests_16 C.2.2.2.2.2.2.2.1
    rw [ht]; exact P1
  · intro x hr H1 locs1 P1 D1 S1
    subst hr
    have k8 : Ex R GLx (ZLx (some x) s') miL_rests NF 1 6 8 NF [(0, .ref 1), (1, .int v), (2, .int w), (3, .ref 158)] [.int x, .int 0, .ref 158] (hp s') := by
      refine x_i2l dL_rests_8 (pc2 := 9) rfl ?_
      refine x_last dL_rests_9 sa_158 (inb_v rfl) (h2 := hp (lrO (some x) s')) rfl (pc2 := 10) rfl ?_
      refine x_goto (tgt := 17) dL_rests_10 (by decide) ?_
      refine x_iconst (x := 0) dL_rests_17 (by decide) (pc2 := 18) rfl ?_
      intro p l e s m args below meth c D cA ad0 ad A H locs lsA C Y G sw P Dj S L
      have e2 := G.eq
      subst e2
      refine vx_ret ?_
      refine W.iret C.1 C.2.1 (C.2.2.1.trans rfl) (fun t ht hW => ⟨⟨0, (), rfl, rfl, ?_, va_K.moved hW.alike C.2.2.2.2.2.2.2.2.1, Dj⟩, S.F ht⟩) S.2.2 dL_rests_18 C.2.2.2.2.2.2.2.1
      rw [ht]; exact P
    exact k8 p l e s m args below meth c D cA ad ad A H1 locs1 lsA C Y (fun _ _ => rfl) sw P1 D1 S1 L
theorem lrest_met (hf : f_X11_rests v w s0 = some (r, s')) {l : Launch} (hl : l.stackTraces = false) (D : va_G) (cA : Nat → ClassId) (ad : Nat → Nat) (sz : Nat) :
    vx_Met l yL_rests wsLR (rmo 14 1 6) (va_Pc [.ref (ad 1), .int v, .int w, .ref (ad 158)] (PWX D cA ad NF (hp s0) sz)) (QLx D cA ad (lrV r) (lrO r s') (va_A (wl cA ad NF (hp s0)) sz) #[.ref (ad 1), .int v, .int w, .ref (ad 158)]) (fun _ _ _ => False) 1 6 (va_A (wl cA ad NF (hp s0)) sz) := by
  refine vx_ofWH (cc := cL_rests) (maxL := 5) (ret := some .int) (hh := lrH) (by decide +kernel) rfl ?_
  intro p e s m args below meth c s₁ B hml hv
  obtain ⟨rfl, ⟨hsz, hP, hK, hD0, hSW⟩, hRX⟩ := hv
  subst hsz
  have hts := atoms_spec (ws := wsLR) B.pre
  have htab := vx_table (x := yL_rests) B (hts _ List.mem_cons_self)
  have hl9 := lv_entry (([.ref 1, .int v, .int w, .ref 158] : List Value).map (cv ad)) (n := 5) (by rw [lg_cv]; exact Nat.le_of_ble_eq_true rfl)
  rw [lm_args] at hl9
  have hcz : Cx p s m #[.ref (ad 1), .int v, .int w, .ref (ad 158)] meth c D cA (va_A (wl cA ad NF (hp s0)) s.heap.size) miL_rests := ⟨B.exec, B.bytes, B.returns, hml, findClass_of_methodNamed B.named, fun w hw => hts w (List.mem_cons_of_mem _ hw), trivial, B.notSynchronized, hK, fun q hq => Or.inr hq⟩
  have hk := lrest_walk (R := rmo 14 1 6) ⟨by decide, by decide⟩ ⟨by decide, by decide⟩ hf p l e s m #[.ref (ad 1), .int v, .int w, .ref (ad 158)] below meth c D cA ad ad (va_A (wl cA ad NF (hp s0)) s.heap.size) s.heap [] _ hcz ⟨hl, hRX, htab⟩ (fun _ _ => rfl) hSW hP hD0.self va_S.rf hl9
  rw [lg_entry_eq]
  exact hk
end LREST
