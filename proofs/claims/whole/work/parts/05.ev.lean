/-! The pure heap: objects are numbered from 1; h.1 o k an int (field k, or place k of an int, char, boolean array), h.2.1 a long, h.2.2 a reference (0: null). The shapes are fixed: sk, ftc. -/
abbrev HP : Type := (Nat → Nat → Int32) × (Nat → Nat → Int64) × (Nat → Nat → Nat)
abbrev MI : Type := MethodName × ByteArray × Nat × Option FieldType
def sk (o : Nat) : Nat × Nat := skL.getD (o - 1) (99, 0)
def ftc (ci k : Nat) : Nat := (ftL.getD ci []).getD k 0
def fnn (ci : Nat) : Nat := (ftL.getD ci []).length
def skz (q : Nat × Nat) : Nat := if q.1 = 0 then fnn q.2 else q.2
def sl : Nat → Nat
  | 0 => 0
  | n + 1 => sl n + skz (sk (n + 1))
def rv (ad : Nat → Nat) (r : Nat) : Value := if r = 0 then .null else .ref (ad r)
def fv (ad : Nat → Nat) (h : HP) (o t k : Nat) : Value := if t = 1 then .long (h.2.1 o k) else if t = 2 then rv ad (h.2.2 o k) else .int (h.1 o k)
theorem fv_i {ad : Nat → Nat} {h : HP} {o t k : Nat} (ht : t ≠ 1 ∧ t ≠ 2) : fv ad h o t k = .int (h.1 o k) := by simp [fv, ht.1, ht.2]
theorem fv_l {ad : Nat → Nat} {h : HP} {o t k : Nat} (ht : t = 1) : fv ad h o t k = .long (h.2.1 o k) := by simp [fv, ht]
theorem fv_r {ad : Nat → Nat} {h : HP} {o k r : Nat} (h0 : h.2.2 o k = r) (h1 : r ≠ 0) : fv ad h o 2 k = .ref (ad r) := by simp [fv, rv, h0, h1]
theorem fv_n {ad : Nat → Nat} {h : HP} {o k : Nat} (h0 : h.2.2 o k = 0) : fv ad h o 2 k = .null := by simp [fv, rv, h0]
def flds (ad : Nat → Nat) (h : HP) (o ci : Nat) : List Value := (List.range (fnn ci)).map (fun k => fv ad h o (ftc ci k) k)
def en (cA : Nat → ClassId) (ad : Nat → Nat) (h : HP) (o : Nat) (q : Nat × Nat) : va_E :=
  if q.1 = 0 then .inr (q.2, flds ad h o q.2)
  else if q.1 = 2 then .inl (cA 2, q.2, .inr (.inl (h.2.1 o)))
  else if 5 ≤ q.1 then .inl (cA q.1, q.2, .inr (.inr (.inr (.inr (fun i => if h.2.2 o i = 0 then none else some (ad (h.2.2 o i)))))))
  else .inl (cA q.1, q.2, .inl (h.1 o))
def tysOf (cA : Nat → ClassId) : List (ClassId × FieldType) := [(cA 1, .int), (cA 2, .long), (cA 3, .char), (cA 4, .boolean), (cA 5, .object RX9), (cA 6, .object RX0), (cA 7, .object RX7)]
def wl (cA : Nat → ClassId) (ad : Nat → Nat) (N : Nat) (h : HP) : va_W := (List.range N).map (fun i => (ad (i + 1), en cA ad h (i + 1) (sk (i + 1))))
def up2 {α : Type} (f : Nat → Nat → α) (o k : Nat) (x : α) : Nat → Nat → α := fun o' k' => if o' = o then (if k' = k then x else f o' k') else f o' k'
def uI (h : HP) (o k : Nat) (x : Int32) : HP := (up2 h.1 o k x, h.2)
def uL (h : HP) (o k : Nat) (x : Int64) : HP := (h.1, up2 h.2.1 o k x, h.2.2)
def uR (h : HP) (o k : Nat) (x : Nat) : HP := (h.1, h.2.1, up2 h.2.2 o k x)
theorem up2_o {α : Type} {f : Nat → Nat → α} {o k : Nat} {x : α} {o' : Nat} (e : o' ≠ o) : up2 f o k x o' = f o' := by funext k'; simp [up2, e]
theorem up2_s {α : Type} {f : Nat → Nat → α} {o k : Nat} {x : α} : up2 f o k x o = fun k' => if k' = k then x else f o k' := by funext k'; simp [up2]
theorem wl_get {cA : Nat → ClassId} {ad : Nat → Nat} {N : Nat} {h : HP} {o : Nat} (h1 : 1 ≤ o) (h2 : o ≤ N) : (wl cA ad N h)[o - 1]? = some (ad o, en cA ad h o (sk o)) := by
  have e : o - 1 + 1 = o := by omega
  have hl : o - 1 < N := by omega
  simp [wl, List.getElem?_map, List.getElem?_range, hl, e]
theorem wl_set {cA : Nat → ClassId} {ad : Nat → Nat} {N : Nat} {h h' : HP} {o : Nat} {e : va_E} (h1 : 1 ≤ o) (h2 : o ≤ N) (ho : ∀ o', o' ≠ o → en cA ad h' o' (sk o') = en cA ad h o' (sk o')) (he : en cA ad h' o (sk o) = e) : (wl cA ad N h).set (o - 1) (ad o, e) = wl cA ad N h' := by
  apply List.ext_getElem?
  intro i
  by_cases hi : i < N
  · by_cases hio : i = o - 1
    · subst hio
      rw [List.getElem?_set_self (by simp [wl]; omega), wl_get h1 h2, he]
    · rw [List.getElem?_set_ne (fun q => hio q.symm)]
      have h3 : i + 1 ≠ o := by omega
      simp [wl, List.getElem?_map, List.getElem?_range, hi, ho _ h3]
  · have l1 : ((wl cA ad N h).set (o - 1) (ad o, e)).length ≤ i := by simp [wl]; omega
    have l2 : (wl cA ad N h').length ≤ i := by simp [wl]; omega
    rw [List.getElem?_eq_none l1, List.getElem?_eq_none l2]
theorem flds_get {ad : Nat → Nat} {h : HP} {o ci k : Nat} (hk : k < fnn ci) : (flds ad h o ci)[k]? = some (fv ad h o (ftc ci k) k) := by
  simp [flds, List.getElem?_map, List.getElem?_range, hk]
theorem flds_set {ad : Nat → Nat} {h h' : HP} {o ci k : Nat} {v : Value} (hk : k < fnn ci) (hv : fv ad h' o (ftc ci k) k = v) (ho : ∀ j, j ≠ k → fv ad h' o (ftc ci j) j = fv ad h o (ftc ci j) j) : (flds ad h o ci).set k v = flds ad h' o ci := by
  apply List.ext_getElem?
  intro i
  by_cases hi : i < fnn ci
  · by_cases hik : i = k
    · subst hik
      rw [List.getElem?_set_self (by simp [flds]; omega), flds_get hi, hv]
    · rw [List.getElem?_set_ne (fun q => hik q.symm), flds_get hi, flds_get hi, ho i hik]
  · have l1 : ((flds ad h o ci).set k v).length ≤ i := by simp [flds]; omega
    have l2 : (flds ad h' o ci).length ≤ i := by simp [flds]; omega
    rw [List.getElem?_eq_none l1, List.getElem?_eq_none l2]
def isO (N o ci : Nat) : Prop := 1 ≤ o ∧ o ≤ N ∧ sk o = (0, ci)
def isA (N o t n : Nat) : Prop := 1 ≤ o ∧ o ≤ N ∧ sk o = (t, n)
theorem en_o {cA : Nat → ClassId} {ad : Nat → Nat} {h : HP} {o ci : Nat} (e : sk o = (0, ci)) : en cA ad h o (sk o) = .inr (ci, flds ad h o ci) := by rw [e]; rfl
theorem en_congr {cA : Nat → ClassId} {ad : Nat → Nat} {h g : HP} {o : Nat} {q : Nat × Nat} (a : g.1 o = h.1 o) (b : g.2.1 o = h.2.1 o) (c : g.2.2 o = h.2.2 o) : en cA ad g o q = en cA ad h o q := by
  unfold en flds fv
  rw [a, b, c]
theorem en_uI {cA : Nat → ClassId} {ad : Nat → Nat} {h : HP} {o k : Nat} {x : Int32} {o' : Nat} (e : o' ≠ o) : en cA ad (uI h o k x) o' (sk o') = en cA ad h o' (sk o') := en_congr (up2_o e) rfl rfl
theorem en_uL {cA : Nat → ClassId} {ad : Nat → Nat} {h : HP} {o k : Nat} {x : Int64} {o' : Nat} (e : o' ≠ o) : en cA ad (uL h o k x) o' (sk o') = en cA ad h o' (sk o') := en_congr rfl (up2_o e) rfl
theorem en_uR {cA : Nat → ClassId} {ad : Nat → Nat} {h : HP} {o k : Nat} {x : Nat} {o' : Nat} (e : o' ≠ o) : en cA ad (uR h o k x) o' (sk o') = en cA ad h o' (sk o') := en_congr rfl rfl (up2_o e)
theorem fl_uI {ad : Nat → Nat} {h : HP} {o ci k : Nat} {x : Int32} (hk : k < fnn ci) (ht : ftc ci k ≠ 1 ∧ ftc ci k ≠ 2) : (flds ad h o ci).set k (.int x) = flds ad (uI h o k x) o ci := by
  refine flds_set hk ?_ (fun j hj => ?_)
  · rw [fv_i ht]; simp [uI, up2]
  · simp [fv, uI, up2, hj]
theorem fl_uL {ad : Nat → Nat} {h : HP} {o ci k : Nat} {x : Int64} (hk : k < fnn ci) (ht : ftc ci k = 1) : (flds ad h o ci).set k (.long x) = flds ad (uL h o k x) o ci := by
  refine flds_set hk ?_ (fun j hj => ?_)
  · rw [fv_l ht]; simp [uL, up2]
  · simp [fv, uL, up2, hj]
theorem fl_uR {ad : Nat → Nat} {h : HP} {o ci k : Nat} {x : Nat} (hk : k < fnn ci) (ht : ftc ci k = 2) : (flds ad h o ci).set k (rv ad x) = flds ad (uR h o k x) o ci := by
  refine flds_set hk ?_ (fun j hj => ?_)
  · rw [ht]; simp [fv, uR, up2]
  · simp [fv, uR, up2, hj]
theorem wl_o {cA : Nat → ClassId} {ad : Nat → Nat} {N : Nat} {h : HP} {o ci : Nat} (ho : isO N o ci) : (wl cA ad N h)[o - 1]? = some (ad o, .inr (ci, flds ad h o ci)) := by
  rw [wl_get ho.1 ho.2.1, en_o ho.2.2]
theorem wl_putI {cA : Nat → ClassId} {ad : Nat → Nat} {N : Nat} {h : HP} {o ci k : Nat} {x : Int32} (ho : isO N o ci) (hk : k < fnn ci) (ht : ftc ci k ≠ 1 ∧ ftc ci k ≠ 2) : (wl cA ad N h).set (o - 1) (ad o, .inr (ci, (flds ad h o ci).set k (.int x))) = wl cA ad N (uI h o k x) :=
  wl_set ho.1 ho.2.1 (fun _ ne => en_uI ne) (by rw [en_o ho.2.2, fl_uI hk ht])
theorem wl_putL {cA : Nat → ClassId} {ad : Nat → Nat} {N : Nat} {h : HP} {o ci k : Nat} {x : Int64} (ho : isO N o ci) (hk : k < fnn ci) (ht : ftc ci k = 1) : (wl cA ad N h).set (o - 1) (ad o, .inr (ci, (flds ad h o ci).set k (.long x))) = wl cA ad N (uL h o k x) :=
  wl_set ho.1 ho.2.1 (fun _ ne => en_uL ne) (by rw [en_o ho.2.2, fl_uL hk ht])
theorem wl_putR {cA : Nat → ClassId} {ad : Nat → Nat} {N : Nat} {h : HP} {o ci k : Nat} {x : Nat} (ho : isO N o ci) (hk : k < fnn ci) (ht : ftc ci k = 2) : (wl cA ad N h).set (o - 1) (ad o, .inr (ci, (flds ad h o ci).set k (rv ad x))) = wl cA ad N (uR h o k x) :=
  wl_set ho.1 ho.2.1 (fun _ ne => en_uR ne) (by rw [en_o ho.2.2, fl_uR hk ht])
theorem wl_putRr {cA : Nat → ClassId} {ad : Nat → Nat} {N : Nat} {h : HP} {o ci k : Nat} {x : Nat} (ho : isO N o ci) (hk : k < fnn ci) (ht : ftc ci k = 2 ∧ x ≠ 0) : (wl cA ad N h).set (o - 1) (ad o, .inr (ci, (flds ad h o ci).set k (.ref (ad x)))) = wl cA ad N (uR h o k x) := by
  rw [← wl_putR (cA := cA) (ad := ad) (h := h) (x := x) ho hk ht.1, rv, if_neg ht.2]
theorem wl_putRn {cA : Nat → ClassId} {ad : Nat → Nat} {N : Nat} {h : HP} {o ci k : Nat} (ho : isO N o ci) (hk : k < fnn ci) (ht : ftc ci k = 2) : (wl cA ad N h).set (o - 1) (ad o, .inr (ci, (flds ad h o ci).set k .null)) = wl cA ad N (uR h o k 0) := by
  rw [← wl_putR (cA := cA) (ad := ad) (h := h) (x := 0) ho hk ht]; rfl
theorem wl_ai {cA : Nat → ClassId} {ad : Nat → Nat} {N : Nat} {h : HP} {o t n : Nat} (ho : isA N o t n) (ht : t = 1 ∨ t = 3 ∨ t = 4) : (wl cA ad N h)[o - 1]? = some (ad o, .inl (cA t, n, .inl (h.1 o))) := by
  rw [wl_get ho.1 ho.2.1, ho.2.2]
  rcases ht with rfl | rfl | rfl <;> rfl
theorem wl_al {cA : Nat → ClassId} {ad : Nat → Nat} {N : Nat} {h : HP} {o n : Nat} (ho : isA N o 2 n) : (wl cA ad N h)[o - 1]? = some (ad o, .inl (cA 2, n, .inr (.inl (h.2.1 o)))) := by
  rw [wl_get ho.1 ho.2.1, ho.2.2]; rfl
theorem wl_aq {cA : Nat → ClassId} {ad : Nat → Nat} {N : Nat} {h : HP} {o t n : Nat} (ho : isA N o t n) (ht : t = 5 ∨ t = 6 ∨ t = 7) : (wl cA ad N h)[o - 1]? = some (ad o, .inl (cA t, n, .inr (.inr (.inr (.inr (fun i => if h.2.2 o i = 0 then none else some (ad (h.2.2 o i)))))))) := by
  rw [wl_get ho.1 ho.2.1, ho.2.2]
  rcases ht with rfl | rfl | rfl <;> rfl
theorem wl_sai {cA : Nat → ClassId} {ad : Nat → Nat} {N : Nat} {h : HP} {o t n j : Nat} {x : Int32} (ho : isA N o t n) (ht : t = 1 ∨ t = 3 ∨ t = 4) : (wl cA ad N h).set (o - 1) (ad o, .inl (cA t, n, .inl (upd (h.1 o) j x))) = wl cA ad N (uI h o j x) := by
  refine wl_set ho.1 ho.2.1 (fun _ ne => en_uI ne) ?_
  have e : (uI h o j x).1 o = upd (h.1 o) j x := by simp only [uI, up2_s]; rfl
  rw [ho.2.2]
  rcases ht with rfl | rfl | rfl <;> simp [en, e]
theorem wl_sal {cA : Nat → ClassId} {ad : Nat → Nat} {N : Nat} {h : HP} {o n j : Nat} {x : Int64} (ho : isA N o 2 n) : (wl cA ad N h).set (o - 1) (ad o, .inl (cA 2, n, .inr (.inl (vp_updL (h.2.1 o) j x)))) = wl cA ad N (uL h o j x) := by
  refine wl_set ho.1 ho.2.1 (fun _ ne => en_uL ne) ?_
  have e : (uL h o j x).2.1 o = vp_updL (h.2.1 o) j x := by simp only [uL, up2_s]; rfl
  rw [ho.2.2]
  simp [en, e]
def uA (h : HP) (o : Nat) (f : Nat → Int32) : HP := (fun o' => if o' = o then f else h.1 o', h.2)
theorem wl_sac {cA : Nat → ClassId} {ad : Nat → Nat} {N : Nat} {h : HP} {o n : Nat} {f : Nat → Int32} (ho : isA N o 1 n) : (wl cA ad N h).set (o - 1) (ad o, .inl (cA 1, n, .inl f)) = wl cA ad N (uA h o f) := by
  refine wl_set ho.1 ho.2.1 (fun o' ne => ?_) ?_
  · exact en_congr (by simp [uA, ne]) rfl rfl
  · rw [ho.2.2]; simp [en, uA]
/-! The statics: the enum's constants, its array, the text of the signs -/
def nmW : List String := nmWL
def sgnL : List Int32 := [40, 41, 60, 61, 43, 45, 42, 59]
def SW (adw : Nat → Nat) (A : Nat → Prop) (U : State) (H : Heap) : Prop :=
  va_En RX10 "LTeaJunction$Word;" nmW [("TeaJunction$Word", "once", "I", onceL)] adw A U H ∧
  va_Ef 37 "TeaJunction$Word" "key" "J" (fun i => .long (keyL.getD i 0)) adw A U H ∧
  va_Z "TeaJunction" "WORDS" "[LTeaJunction$Word;" (.ref (adw 100)) A U H ∧
  va_T (.object "TeaJunction$Word") (adw 100) 37 (fun i => .ref (adw i)) A U H ∧
  vk_S 1 [8] [sgnL] (fun _ => adw 101) (fun _ => adw 102) A U H ∧
  va_Z "java/lang/String" "COMPACT_STRINGS" "Z" (.int 1) A U H ∧ va_AO RX9 U ∧ va_AO RX0 U ∧ va_AO RX7 U
theorem SW.moved {adw : Nat → Nat} {A : Nat → Prop} {u U : State} {H : Heap} (hvm : u.vm.Alike U.vm) (h : SW adw A u H) : SW adw A U H := ⟨va_En.moved hvm h.1, va_Ef.moved hvm h.2.1, va_Z.moved hvm h.2.2.1, va_T.moved hvm h.2.2.2.1, vk_S.moved hvm h.2.2.2.2.1, va_Z.moved hvm h.2.2.2.2.2.1, h.2.2.2.2.2.2.1.moved hvm, h.2.2.2.2.2.2.2.1.moved hvm, h.2.2.2.2.2.2.2.2.moved hvm⟩
theorem SW.kept {adw : Nat → Nat} {A : Nat → Prop} {U : State} {H H1 : Heap} (h : SW adw A U H) (hq : ∀ a : Nat, a < H.size → ¬ A a → H1[a]? = H[a]?) : SW adw A U H1 := ⟨h.1.kept hq, h.2.1.kept hq, h.2.2.1.kept hq, h.2.2.2.1.kept hq, h.2.2.2.2.1.kept hq, h.2.2.2.2.2.1.kept hq, h.2.2.2.2.2.2⟩
theorem SW.narrow {adw : Nat → Nat} {A B : Nat → Prop} {U : State} {H : Heap} (h : SW adw A U H) (hAB : ∀ q, B q → A q) : SW adw B U H := ⟨h.1.narrow hAB, h.2.1.narrow hAB, h.2.2.1.narrow hAB, h.2.2.2.1.narrow hAB, h.2.2.2.2.1.narrow hAB, h.2.2.2.2.2.1.narrow hAB, h.2.2.2.2.2.2⟩
def NWL : List Cond := [.fieldLinkNest "TeaJunction$Tape" 64 "TeaJunction" "WORDS" "[LTeaJunction$Word;" "TeaJunction", .methodLinkNest "TeaJunction$Plan" 17 ⟨"TeaJunction$Order", "<init>", "()V"⟩ "TeaJunction", .methodLinkNest "TeaJunction$Plan" 44 ⟨"TeaJunction$Thing", "<init>", "()V"⟩ "TeaJunction", .methodLinkNest "TeaJunction$Plan" 45 ⟨"TeaJunction$Buyer", "<init>", "()V"⟩ "TeaJunction", .methodLinkNest "TeaJunction" 18 ⟨"TeaJunction$State", "<init>", "()V"⟩ "TeaJunction", .methodLinkNest "TeaJunction" 36 ⟨"TeaJunction$Tape", "<init>", "()V"⟩ "TeaJunction", .methodLinkNest "TeaJunction$PlanReader" 97 ⟨"TeaJunction$OrderReader", "readWhole", "(LTeaJunction$Order;I)V"⟩ "TeaJunction"]
def NWp (adw : Nat → Nat) (U : State) : Prop := (∀ w ∈ NWL, va_Nw w U) ∧ vk_R "TeaJunction$Tape" 54 "()<=+-*;" (adw 101) U
theorem NWL_c {w : Cond} (h : w ∈ NWL) : (∃ a i b n d hh, w = .fieldLinkNest a i b n d hh) ∨ ∃ a i x hh, w = .methodLinkNest a i x hh := by
  simp only [NWL, List.mem_cons, List.not_mem_nil, or_false] at h
  rcases h with rfl | rfl | rfl | rfl | rfl | rfl | rfl <;> first | exact Or.inl ⟨_, _, _, _, _, _, rfl⟩ | exact Or.inr ⟨_, _, _, _, rfl⟩
theorem NWp.same {adw : Nat → Nat} {u U : State} (hv : u.vm = U.vm) (h : NWp adw u) : NWp adw U := by
  refine ⟨fun w hw => ?_, vk_R.same hv.symm h.2⟩
  rcases NWL_c hw with ⟨a, i, b, n, d, hh, rfl⟩ | ⟨a, i, x, hh, rfl⟩
  · exact va_Nw.same rfl hv (h.1 _ hw)
  · exact va_Nw.same rfl hv (h.1 _ hw)
theorem NWp.warm {adw : Nat → Nat} {s U : State} (hW : s.WarmedH U.vm) (h : NWp adw s) : NWp adw U := by
  refine ⟨fun w hw => ?_, vk_R.warm hW h.2⟩
  rcases NWL_c hw with ⟨a, i, b, n, d, hh, rfl⟩ | ⟨a, i, x, hh, rfl⟩
  · exact va_Nw.warmF hW (h.1 _ hw)
  · exact va_Nw.warmM hW (h.1 _ hw)
def SWN (adw : Nat → Nat) (A : Nat → Prop) (U : State) (H : Heap) : Prop := SW adw A U H ∧ NWp adw U
/-! Contracts -/
def TG : List Cond := lw_tbl.filter goodWord
theorem TG_in {w : Cond} (h : w ∈ lw_tbl) (hg : goodWord w = true) : w ∈ TG := List.mem_filter.mpr ⟨h, hg⟩
def wsG (μ : MI) : List Cond := .code μ.1 μ.2.1 μ.2.2.1 μ.2.2.2 :: TG
def ag (N0 N : Nat) (ad0 ad : Nat → Nat) : Prop := ∀ o, ¬ (N0 < o ∧ o ≤ N) → ad o = ad0 o
theorem ag.eq {N : Nat} {ad0 ad : Nat → Nat} (h : ag N N ad0 ad) : ad = ad0 := funext fun o => h o (by omega)
theorem TG_good {w : Cond} (h : w ∈ TG) : w ∈ TG ∧ ((w.onTables && w.keeps) = true ∨ ∃ ty, w = .arrayClass ty) := ⟨h, good_of_word (List.mem_filter.mp h).2⟩
def cv (ad : Nat → Nat) : Value → Value
  | .ref o => .ref (ad o)
  | v => v
theorem cv_cat (ad : Nat → Nat) (v : Value) : (cv ad v).category = v.category := by cases v <;> rfl
def adW (ad : Nat → Nat) : Nat → Nat := fun i => ad (1000 + i)
def rmo (d mc ms : Nat) : Room := { frames := d, cells := mc, slots := ms, locals := 100 * d }
def Qr (D : va_G) (cA : Nat → ClassId) (v : Option Value) (N0 : Nat) (ad0 : Nat → Nat) (N' : Nat) (h' : HP) (A : Nat → Prop) : Array Value → State → Outcome → State → Prop := fun _ st oc t =>
  (∃ ad' : Nat → Nat, ag N0 N' ad0 ad' ∧ oc = .returned (v.map (cv ad')) ∧ va_P D vwCl (wl cA ad' N' h') t.heap ∧ va_K D vwCl (tysOf cA) t ∧ va_D A (wl cA ad' N' h')) ∧ va_F A st t
def PW (D : va_G) (cA : Nat → ClassId) (ad : Nat → Nat) (N : Nat) (h : HP) (sz : Nat) : State → Prop := fun U =>
  U.heap.size = sz ∧ va_P D vwCl (wl cA ad N h) U.heap ∧ va_K D vwCl (tysOf cA) U ∧ va_D (fun _ => True) (wl cA ad N h) ∧ SWN (adW ad) (va_A (wl cA ad N h) sz) U U.heap
def Mt (d : Nat) (μ : MI) (av : List Value) (N : Nat) (h : HP) (v : Option Value) (N' : Nat) (h' : HP) : Prop :=
  N ≤ N' ∧ ∀ (l : Launch) (D : va_G) (cA : Nat → ClassId) (ad : Nat → Nat) (sz : Nat), Met l μ.1 (wsG μ) (rmo d (N' - N) (sl N' - sl N)) (va_Pc (av.map (cv ad)) (PW D cA ad N h sz)) (Qr D cA v N ad N' h' (va_A (wl cA ad N h) sz)) (N' - N) (sl N' - sl N) (va_A (wl cA ad N h) sz)
def Cz (p : Program) (s : State) (m : MethodId) (args : Array Value) (meth : Method) (c : Code) (D : va_G) (cA : Nat → ClassId) (A : Nat → Prop) (μ : MI) : Prop :=
  p.tables.exec = Jvm.exec ∧ c.code = μ.2.1 ∧ meth.sig.returnType = μ.2.2.2 ∧ c.maxLocals = μ.2.2.1 ∧ s.vm.findClass μ.1.cls = some m.cls ∧ (∀ w ∈ TG, w.before args s = true) ∧ meth.name = μ.1.name ∧ meth.locks = false ∧ va_K D vwCl (tysOf cA) s ∧ (∀ q : Nat, s.heap.size ≤ q → A q)
def lm (ad : Nat → Nat) (ls : List (Nat × Value)) : List (Nat × Value) := ls.map (fun q => (q.1, cv ad q.2))
def Ev (d : Nat) (μ : MI) (N0 : Nat) (v : Option Value) (N' : Nat) (h' : HP) (pc N : Nat) (ls : List (Nat × Value)) (st : List Value) (h : HP) : Prop :=
  ∀ (p : Program) (l : Launch) (e : Env) (s : State) (m : MethodId) (args : Array Value) (below : List Frame) (meth : Method) (c : Code) (D : va_G) (cA : Nat → ClassId) (ad0 ad : Nat → Nat) (A : Nat → Prop) (H : Heap) (locs : List Loc) (lsA : Array Slot),
    Cz p s m args meth c D cA A μ → ag N0 N ad0 ad → SWN (adW ad) A s s.heap → va_P D vwCl (wl cA ad N h) H → va_D A (wl cA ad N h) → va_S A s.heap H locs → lv_has lsA μ.2.2.1 (lm ad ls) →
    W p l e (rmo d (N' - N0) (sl N' - sl N0)) s m args below meth c H locs (N - N0) (sl N - sl N0) (MQ below (Qr D cA v N0 ad0 N' h' A) args s (N' - N0) (sl N' - sl N0) A) (F0 m pc lsA (st.map (cv ad)))
theorem lm_args {ad : Nat → Nat} (vs : List Value) : ∀ i : Nat, lv_args i (vs.map (cv ad)) = lm ad (lv_args i vs) := by
  induction vs with
  | nil => intro i; rfl
  | cons v vs ih => intro i; simp only [List.map_cons, lv_args, cv_cat, ih, lm]
theorem lg_cv {ad : Nat → Nat} (vs : List Value) : (lg_sl (vs.map (cv ad))).length = (lg_sl vs).length := by
  induction vs with
  | nil => rfl
  | cons v vs ih =>
    have e1 : ∀ (w : Value) (ws : List Value), (lg_sl (w :: ws)).length = (if w.category = 2 then 2 else 1) + (lg_sl ws).length := by
      intro w ws
      by_cases hw : w.category = 2 <;> simp [lg_sl, hw] <;> omega
    rw [List.map_cons, e1, e1, cv_cat, ih]
theorem cat_sum {ad : Nat → Nat} (st : List Value) : ((st.map (cv ad)).map fun v => v.category).sum = (st.map fun v => v.category).sum := by
  induction st with
  | nil => rfl
  | cons v vs ih => simp only [List.map_cons, List.sum_cons, cv_cat]; rw [ih]
theorem lm_at {ad : Nat → Nat} {ls : List (Nat × Value)} {n i : Nat} {v : Value} (h : ls[n]? = some (i, v)) : (lm ad ls)[n]? = some (i, cv ad v) := by simp [lm, List.getElem?_map, h]
theorem lm_pick {ad : Nat → Nat} {ls ls' : List (Nat × Value)} {ks : List Nat} (h : lv_pick ls ks = ls') : lv_pick (lm ad ls) ks = lm ad ls' := by
  subst h
  simp only [lv_pick, lm, List.map_filterMap]
  congr 1
  funext k
  simp [List.getElem?_map]
theorem lm_filter {ad : Nat → Nat} {ls : List (Nat × Value)} {P : Nat → Nat → Bool} : (lm ad ls).filter (fun q => P q.1 q.2.category) = lm ad (ls.filter (fun q => P q.1 q.2.category)) := by
  simp only [lm, List.filter_map]
  congr 1
  apply List.filter_congr
  intro q _
  simp [cv_cat]
/-- from its entry -/
theorem Mt.of {d : Nat} {μ : MI} {av : List Value} {N : Nat} {h : HP} {v : Option Value} {N' : Nat} {h' : HP} (hy : plainName μ.1.cls = true) (hN : N ≤ N') (hlen : (lg_sl av).length ≤ μ.2.2.1)
    (k : Ev d μ N v N' h' 0 N (lv_args 0 av) [] h) : Mt d μ av N h v N' h' := by
  refine ⟨hN, fun l D cA ad sz => ?_⟩
  refine Met.ofW (cc := μ.2.1) (maxL := μ.2.2.1) (ret := μ.2.2.2) hy rfl ?_
  intro p e s m args below meth c s₁ B hml hv
  obtain ⟨rfl, hsz, hP, hK, hD0, hSW⟩ := hv
  subst hsz
  have hts := atoms_spec (ws := wsG μ) B.pre
  have hl := lv_entry (av.map (cv ad)) (n := μ.2.2.1) (by rw [lg_cv]; exact hlen)
  rw [lg_entry_eq]
  have hcz : Cz p s m (av.map (cv ad)).toArray meth c D cA (va_A (wl cA ad N h) s.heap.size) μ := ⟨B.exec, B.bytes, B.returns, hml, findClass_of_methodNamed B.named, fun w hw => hts w (List.mem_cons_of_mem _ hw), (name_of_methodNamed B.named B.method).1, B.notSynchronized, hK, fun q hq => Or.inr hq⟩
  have hk := k p l e s m (av.map (cv ad)).toArray below meth c D cA ad ad (va_A (wl cA ad N h) s.heap.size) s.heap [] _ hcz (fun _ _ => rfl) hSW hP hD0.self va_S.rf (by rw [← lm_args]; exact hl)
  have e0 : N - N = 0 := Nat.sub_self N
  have e1 : sl N - sl N = 0 := Nat.sub_self _
  rw [e0, e1] at hk
  exact hk
/-! links of fields -/
def tdc (t : Nat) : FieldType := if t = 1 then .long else if t = 3 then .boolean else if t = 4 then .char else .int
def FL (own : String) (idx ci k t : Nat) : Prop := ∃ (C : String) (T : u_T) (n : Nat) (ty : Nat → FieldType), vwCl[ci]? = some (C, T, n) ∧ (∀ w ∈ u_ws C T n, w ∈ TG) ∧ (∀ j, j < n → parseFieldDescriptor (T j).2.2.1 = some (ty j)) ∧ (∀ a, a < n → ∀ b, b < n → a ≠ b → (T a).2.1 ≠ (T b).2.1) ∧ fnn ci = n ∧ k < n ∧ ftc ci k = t ∧ Cond.fieldLink own idx C (T k).2.1 (T k).2.2.1 ∈ TG ∧ (T k).1 = C ∧ (t ≠ 2 → parseFieldDescriptor (T k).2.2.1 = some (tdc t))
def FN (ci k : Nat) (fin : Bool) : Prop := ∃ (C : String) (T : u_T) (n : Nat), vwCl[ci]? = some (C, T, n) ∧ (T k).2.2.2 = fin
def FR (ci k : Nat) : Prop := ∃ (C : String) (T : u_T) (n : Nat) (ty : FieldType), vwCl[ci]? = some (C, T, n) ∧ parseFieldDescriptor (T k).2.2.1 = some ty ∧ (∀ r : Nat, narrow ty (.ref r) = .ref r ∧ fits ty (.ref r) = true) ∧ narrow ty .null = .null ∧ fits ty .null = true
def RC (ci : Nat) : String := (vwCl.map (fun q => q.1)).getD ci ""
theorem lc_store {ad : Nat → Nat} {P : Nat → Nat → Bool} {lsB : Array Slot} {nL i : Nat} {v : Value} {ls : List (Nat × Value)} (h : lv_has lsB nL ((i, cv ad v) :: (lm ad ls).filter (fun q => P q.1 q.2.category))) : lv_has lsB nL (lm ad ((i, v) :: ls.filter (fun q => P q.1 q.2.category))) := by
  rw [lm_filter] at h
  exact h
def NN (N0 N N' : Nat) : Prop := N - N0 ≤ N' - N0 ∧ sl N - sl N0 ≤ sl N' - sl N0
theorem rm_lo {d a b : Nat} {ad : Nat → Nat} {st : List Value} (hd : 1 ≤ d) (hs : (st.map fun v => v.category).sum ≤ 8) : ((st.map (cv ad)).map fun v => v.category).sum + 13 ≤ (rmo d a b).locals := by
  rw [cat_sum]
  show _ ≤ 100 * d
  omega
theorem tys_obj {t : Nat} (h : t = 5 ∨ t = 6 ∨ t = 7) : ∃ C : String, ∀ cA : Nat → ClassId, (tysOf cA)[t - 1]? = some (cA t, .object C) := by
  rcases h with rfl | rfl | rfl <;> exact ⟨_, fun _ => rfl⟩
theorem tys_any {t : Nat} (h : 1 ≤ t ∧ t ≤ 7) : ∃ ty : FieldType, ∀ cA : Nat → ClassId, (tysOf cA)[t - 1]? = some (cA t, ty) := by
  obtain ⟨h1, h2⟩ := h
  rcases (by omega : t = 1 ∨ t = 2 ∨ t = 3 ∨ t = 4 ∨ t = 5 ∨ t = 6 ∨ t = 7) with rfl | rfl | rfl | rfl | rfl | rfl | rfl <;> exact ⟨_, fun _ => rfl⟩
theorem wl_any {cA : Nat → ClassId} {ad : Nat → Nat} {N : Nat} {h : HP} {o t n : Nat} (ho : isA N o t n) (ht : 1 ≤ t ∧ t ≤ 7) : ∃ x : vp_A, x.1 = n ∧ (wl cA ad N h)[o - 1]? = some (ad o, .inl (cA t, x)) := by
  obtain ⟨h1, h2⟩ := ht
  rcases (by omega : t = 2 ∨ (t = 1 ∨ t = 3 ∨ t = 4) ∨ (t = 5 ∨ t = 6 ∨ t = 7)) with rfl | q | q
  · exact ⟨_, rfl, wl_al ho⟩
  · exact ⟨_, rfl, wl_ai ho q⟩
  · exact ⟨_, rfl, wl_aq ho q⟩
theorem rm_ac {d a b : Nat} {ad : Nat → Nat} {st : List Value} (hd : 1 ≤ d) (hs : (st.map fun v => v.category).sum ≤ 8) : ((st.map (cv ad)).map fun v => v.category).sum + (nativeFrameWords "java/lang/System" "arraycopy" 5 + 11) ≤ (rmo d a b).locals := by
  rw [cat_sum]
  have e : nativeFrameWords "java/lang/System" "arraycopy" 5 + 11 ≤ 80 := by decide +kernel
  show _ ≤ 100 * d
  omega
theorem tgc_1 : Cond.native arraycopyName ∈ TG := TG_in (by decide +kernel) (by decide +kernel)
theorem tgc_2 : Cond.static arraycopyName ∈ TG := TG_in (by decide +kernel) (by decide +kernel)
theorem tgc_3 : Cond.initialized "java/lang/System" ∈ TG := TG_in (by decide +kernel) (by decide +kernel)
theorem tgm_ini : Cond.initialized "java/lang/Math" ∈ TG := TG_in (by decide +kernel) (by decide +kernel)
theorem tgm_max1 : Cond.static Lib.Math.max.name ∈ TG := TG_in (by decide +kernel) (by decide +kernel)
theorem tgm_max2 : Cond.code Lib.Math.max.name Lib.Math.max.code 2 (some .int) ∈ TG := TG_in (by decide +kernel) (by decide +kernel)
theorem tgm_min1 : Cond.static Lib.Math.min.name ∈ TG := TG_in (by decide +kernel) (by decide +kernel)
theorem tgm_min2 : Cond.code Lib.Math.min.name Lib.Math.min.code 2 (some .int) ∈ TG := TG_in (by decide +kernel) (by decide +kernel)
/-- a reference to a constant of the enum, or null -/
def rva (w : Nat) : Value := if w = 0 then .null else .ref w
theorem rva_s {w : Nat} (h : ¬ w = 0) : rva w = .ref w := if_neg h
theorem rva_cat (w : Nat) : (rva w).category = 1 := by
  by_cases h : w = 0 <;> simp [rva, h, Value.category]
def wob (w : Nat) : Bool := w == 0 || (decide (1000 ≤ w) && decide (w < 1037))
def rvo (ad : Nat → Nat) (w : Nat) : Option Nat := if w = 0 then none else some (ad w)
theorem cv_rva {ad : Nat → Nat} {w : Nat} : cv ad (rva w) = va_rf (rvo ad w) := by
  by_cases h : w = 0 <;> simp [rva, rvo, h, cv, va_rf]
theorem SW.inj {adw : Nat → Nat} {A : Nat → Prop} {U : State} {H : Heap} (h : SW adw A U H) : ∀ i j, i < 37 → j < 37 → adw i = adw j → i = j := fun i j hi hj => h.1.2 i j hi hj
theorem rvo_inj {ad : Nat → Nat} (q : ∀ i j, i < 37 → j < 37 → adW ad i = adW ad j → i = j) {w1 w2 : Nat} (h1 : wob w1 = true) (h2 : wob w2 = true) : rvo ad w1 = rvo ad w2 ↔ w1 = w2 := by
  constructor
  · intro e
    simp only [wob, Bool.or_eq_true, Bool.and_eq_true, decide_eq_true_eq, beq_iff_eq] at h1 h2
    by_cases z1 : w1 = 0 <;> by_cases z2 : w2 = 0
    · omega
    · simp [rvo, z1, z2] at e
    · simp [rvo, z1, z2] at e
    · simp only [rvo, if_neg z1, if_neg z2, Option.some.injEq] at e
      have := q (w1 - 1000) (w2 - 1000) (by omega) (by omega) (by simp only [adW]; rw [show 1000 + (w1 - 1000) = w1 by omega, show 1000 + (w2 - 1000) = w2 by omega]; exact e)
      omega
  · rintro rfl; rfl
section EV
variable {d : Nat} {μ : MI} {N0 : Nat} {v : Option Value} {N' : Nat} {h' : HP} {pc : Nat} {N : Nat} {ls : List (Nat × Value)} {st : List Value} {h : HP}
theorem e_iconst {n : Int} {x : Int32} (hd : decode μ.2.1 pc = .ok (.iconst n, 1)) (hx : Int32.ofInt n = x) {pc2 : Nat} (hp2 : pc + 1 = pc2) (k : Ev d μ N0 v N' h' pc2 N ls (.int x :: st) h) : Ev d μ N0 v N' h' (pc) N ls (st) h := by
  subst hp2
  exact fun p l e s m args below meth c D cA ad0 ad A H locs lsA C G sw P Dj S L => lv_iconst C.1 C.2.1 hd hx (k p l e s m args below meth c D cA ad0 ad A H locs lsA C G sw P Dj S L)
theorem e_bipush {n : Int} {x : Int32} (hd : decode μ.2.1 pc = .ok (.bipush n, 2)) (hx : (Int8.ofInt n).toInt32 = x) {pc2 : Nat} (hp2 : pc + 2 = pc2) (k : Ev d μ N0 v N' h' pc2 N ls (.int x :: st) h) : Ev d μ N0 v N' h' (pc) N ls (st) h := by
  subst hp2
  exact fun p l e s m args below meth c D cA ad0 ad A H locs lsA C G sw P Dj S L => lv_bipush C.1 C.2.1 hd hx (k p l e s m args below meth c D cA ad0 ad A H locs lsA C G sw P Dj S L)
theorem e_sipush {n : Int} {x : Int32} (hd : decode μ.2.1 pc = .ok (.sipush n, 3)) (hx : (Int16.ofInt n).toInt32 = x) {pc2 : Nat} (hp2 : pc + 3 = pc2) (k : Ev d μ N0 v N' h' pc2 N ls (.int x :: st) h) : Ev d μ N0 v N' h' (pc) N ls (st) h := by
  subst hp2
  exact fun p l e s m args below meth c D cA ad0 ad A H locs lsA C G sw P Dj S L => lv_sipush C.1 C.2.1 hd hx (k p l e s m args below meth c D cA ad0 ad A H locs lsA C G sw P Dj S L)
theorem e_lconst {n : Fin 2} {x : Int64} (hd : decode μ.2.1 pc = .ok (.lconst n, 1)) (hx : Int64.ofNat (n : Nat) = x) {pc2 : Nat} (hp2 : pc + 1 = pc2) (k : Ev d μ N0 v N' h' pc2 N ls (.long x :: st) h) : Ev d μ N0 v N' h' (pc) N ls (st) h := by
  subst hp2
  exact fun p l e s m args below meth c D cA ad0 ad A H locs lsA C G sw P Dj S L => lv_lconst C.1 C.2.1 hd hx (k p l e s m args below meth c D cA ad0 ad A H locs lsA C G sw P Dj S L)
theorem e_null (hd : decode μ.2.1 pc = .ok (.aconst_null, 1)) {pc2 : Nat} (hp2 : pc + 1 = pc2) (k : Ev d μ N0 v N' h' pc2 N ls (.null :: st) h) : Ev d μ N0 v N' h' (pc) N ls (st) h := by
  subst hp2
  exact fun p l e s m args below meth c D cA ad0 ad A H locs lsA C G sw P Dj S L => lv_null C.1 C.2.1 hd (k p l e s m args below meth c D cA ad0 ad A H locs lsA C G sw P Dj S L)
theorem e_ldc {x : Int32} {index : Nat} (hd : decode μ.2.1 pc = .ok (.ldc index, 2)) (hc : Cond.constant μ.1.cls index x ∈ TG) {pc2 : Nat} (hp2 : pc + 2 = pc2) (k : Ev d μ N0 v N' h' pc2 N ls (.int x :: st) h) : Ev d μ N0 v N' h' (pc) N ls (st) h := by
  subst hp2
  exact fun p l e s m args below meth c D cA ad0 ad A H locs lsA C G sw P Dj S L => lv_ldc C.1 C.2.1 C.2.2.2.2.1 (C.2.2.2.2.2.1 _ hc) hd (k p l e s m args below meth c D cA ad0 ad A H locs lsA C G sw P Dj S L)
theorem e_ldcw {x : Int32} {index : Nat} (hd : decode μ.2.1 pc = .ok (.ldc_w index, 3)) (hc : Cond.constant μ.1.cls index x ∈ TG) {pc2 : Nat} (hp2 : pc + 3 = pc2) (k : Ev d μ N0 v N' h' pc2 N ls (.int x :: st) h) : Ev d μ N0 v N' h' (pc) N ls (st) h := by
  subst hp2
  exact fun p l e s m args below meth c D cA ad0 ad A H locs lsA C G sw P Dj S L => lv_ldcw C.1 C.2.1 C.2.2.2.2.1 (C.2.2.2.2.2.1 _ hc) hd (k p l e s m args below meth c D cA ad0 ad A H locs lsA C G sw P Dj S L)
theorem e_ldc2 {x : Int64} {index : Nat} (hd : decode μ.2.1 pc = .ok (.ldc2_w index, 3)) (hc : Cond.constantLong μ.1.cls index x ∈ TG) {pc2 : Nat} (hp2 : pc + 3 = pc2) (k : Ev d μ N0 v N' h' pc2 N ls (.long x :: st) h) : Ev d μ N0 v N' h' (pc) N ls (st) h := by
  subst hp2
  exact fun p l e s m args below meth c D cA ad0 ad A H locs lsA C G sw P Dj S L => lv_ldc2 C.1 C.2.1 C.2.2.2.2.1 (C.2.2.2.2.2.1 _ hc) hd (k p l e s m args below meth c D cA ad0 ad A H locs lsA C G sw P Dj S L)
theorem e_iload_n {k0 : Fin 4} {i : Nat} {x : Int32} (hd : decode μ.2.1 pc = .ok (.iload_n k0, 1)) (n : Nat) (hn : ls[n]? = some (i, .int x)) (hi : (k0 : Nat) = i) {pc2 : Nat} (hp2 : pc + 1 = pc2) (k : Ev d μ N0 v N' h' pc2 N ls (.int x :: st) h) : Ev d μ N0 v N' h' (pc) N ls (st) h := by
  subst hp2
  exact fun p l e s m args below meth c D cA ad0 ad A H locs lsA C G sw P Dj S L => lv_iload_n C.1 C.2.1 hd hi (lv_at L n (lm_at hn)) (k p l e s m args below meth c D cA ad0 ad A H locs lsA C G sw P Dj S L)
theorem e_iload {i : Nat} {x : Int32} (hd : decode μ.2.1 pc = .ok (.iload i, 2)) (n : Nat) (hn : ls[n]? = some (i, .int x)) {pc2 : Nat} (hp2 : pc + 2 = pc2) (k : Ev d μ N0 v N' h' pc2 N ls (.int x :: st) h) : Ev d μ N0 v N' h' (pc) N ls (st) h := by
  subst hp2
  exact fun p l e s m args below meth c D cA ad0 ad A H locs lsA C G sw P Dj S L => lv_iload C.1 C.2.1 hd (lv_at L n (lm_at hn)) (k p l e s m args below meth c D cA ad0 ad A H locs lsA C G sw P Dj S L)
theorem e_lload_n {k0 : Fin 4} {i : Nat} {x : Int64} (hd : decode μ.2.1 pc = .ok (.lload_n k0, 1)) (n : Nat) (hn : ls[n]? = some (i, .long x)) (hi : (k0 : Nat) = i) {pc2 : Nat} (hp2 : pc + 1 = pc2) (k : Ev d μ N0 v N' h' pc2 N ls (.long x :: st) h) : Ev d μ N0 v N' h' (pc) N ls (st) h := by
  subst hp2
  exact fun p l e s m args below meth c D cA ad0 ad A H locs lsA C G sw P Dj S L => lv_lload_n C.1 C.2.1 hd hi (lv_at L n (lm_at hn)) (k p l e s m args below meth c D cA ad0 ad A H locs lsA C G sw P Dj S L)
theorem e_lload {i : Nat} {x : Int64} (hd : decode μ.2.1 pc = .ok (.lload i, 2)) (n : Nat) (hn : ls[n]? = some (i, .long x)) {pc2 : Nat} (hp2 : pc + 2 = pc2) (k : Ev d μ N0 v N' h' pc2 N ls (.long x :: st) h) : Ev d μ N0 v N' h' (pc) N ls (st) h := by
  subst hp2
  exact fun p l e s m args below meth c D cA ad0 ad A H locs lsA C G sw P Dj S L => lv_lload C.1 C.2.1 hd (lv_at L n (lm_at hn)) (k p l e s m args below meth c D cA ad0 ad A H locs lsA C G sw P Dj S L)
theorem e_aload_n {k0 : Fin 4} {i : Nat} {x : Nat} (hd : decode μ.2.1 pc = .ok (.aload_n k0, 1)) (n : Nat) (hn : ls[n]? = some (i, .ref x)) (hi : (k0 : Nat) = i) {pc2 : Nat} (hp2 : pc + 1 = pc2) (k : Ev d μ N0 v N' h' pc2 N ls (.ref x :: st) h) : Ev d μ N0 v N' h' (pc) N ls (st) h := by
  subst hp2
  exact fun p l e s m args below meth c D cA ad0 ad A H locs lsA C G sw P Dj S L => lv_aload_n C.1 C.2.1 hd hi (lv_at L n (lm_at hn)) (k p l e s m args below meth c D cA ad0 ad A H locs lsA C G sw P Dj S L)
theorem e_aload {i : Nat} {x : Nat} (hd : decode μ.2.1 pc = .ok (.aload i, 2)) (n : Nat) (hn : ls[n]? = some (i, .ref x)) {pc2 : Nat} (hp2 : pc + 2 = pc2) (k : Ev d μ N0 v N' h' pc2 N ls (.ref x :: st) h) : Ev d μ N0 v N' h' (pc) N ls (st) h := by
  subst hp2
  exact fun p l e s m args below meth c D cA ad0 ad A H locs lsA C G sw P Dj S L => lv_aload C.1 C.2.1 hd (lv_at L n (lm_at hn)) (k p l e s m args below meth c D cA ad0 ad A H locs lsA C G sw P Dj S L)
theorem e_aload_nN {k0 : Fin 4} {i : Nat} (hd : decode μ.2.1 pc = .ok (.aload_n k0, 1)) (n : Nat) (hn : ls[n]? = some (i, .null)) (hi : (k0 : Nat) = i) {pc2 : Nat} (hp2 : pc + 1 = pc2) (k : Ev d μ N0 v N' h' pc2 N ls (.null :: st) h) : Ev d μ N0 v N' h' (pc) N ls (st) h := by
  subst hp2
  exact fun p l e s m args below meth c D cA ad0 ad A H locs lsA C G sw P Dj S L => lv_aload_nN C.1 C.2.1 hd hi (lv_at L n (lm_at hn)) (k p l e s m args below meth c D cA ad0 ad A H locs lsA C G sw P Dj S L)
theorem e_aloadN {i : Nat} (hd : decode μ.2.1 pc = .ok (.aload i, 2)) (n : Nat) (hn : ls[n]? = some (i, .null)) {pc2 : Nat} (hp2 : pc + 2 = pc2) (k : Ev d μ N0 v N' h' pc2 N ls (.null :: st) h) : Ev d μ N0 v N' h' (pc) N ls (st) h := by
  subst hp2
  exact fun p l e s m args below meth c D cA ad0 ad A H locs lsA C G sw P Dj S L => lv_aloadN C.1 C.2.1 hd (lv_at L n (lm_at hn)) (k p l e s m args below meth c D cA ad0 ad A H locs lsA C G sw P Dj S L)
theorem e_istore_n {k0 : Fin 4} {i : Nat} {x : Int32} (hd : decode μ.2.1 pc = .ok (.istore_n k0, 1)) (hi : (k0 : Nat) = i) (hn : i < μ.2.2.1) {y : Int32} (hy : x = y) {ls' : List (Nat × Value)} (ks : List Nat) (hl : lv_pick ((i, .int y) :: ls.filter (fun q => !(q.1 == i) && !(q.1 + 1 == i && q.2.category == 2))) ks = ls') {pc2 : Nat} (hp2 : pc + 1 = pc2) (k : Ev d μ N0 v N' h' pc2 N ls' (st) h) : Ev d μ N0 v N' h' (pc) N ls (.int x :: st) h := by
  subst hp2
  exact fun p l e s m args below meth c D cA ad0 ad A H locs lsA C G sw P Dj S L => lv_istore_n C.1 C.2.1 hd hi L hn rfl (fun lsB LB => k p l e s m args below meth c D cA ad0 ad A H locs lsB C G sw P Dj S (lv_sub (lc_store (P := fun a b => !(a == i) && !(a + 1 == i && b == 2)) LB) ks (lm_pick (hy ▸ hl))))
theorem e_lstore_n {k0 : Fin 4} {i : Nat} {x : Int64} (hd : decode μ.2.1 pc = .ok (.lstore_n k0, 1)) (hi : (k0 : Nat) = i) (hn : i + 1 < μ.2.2.1) {y : Int64} (hy : x = y) {ls' : List (Nat × Value)} (ks : List Nat) (hl : lv_pick ((i, .long y) :: ls.filter (fun q => !(q.1 == i) && (!(q.1 == i + 1) && !(q.1 + 1 == i && q.2.category == 2)))) ks = ls') {pc2 : Nat} (hp2 : pc + 1 = pc2) (k : Ev d μ N0 v N' h' pc2 N ls' (st) h) : Ev d μ N0 v N' h' (pc) N ls (.long x :: st) h := by
  subst hp2
  exact fun p l e s m args below meth c D cA ad0 ad A H locs lsA C G sw P Dj S L => lv_lstore_n C.1 C.2.1 hd hi L hn rfl (fun lsB LB => k p l e s m args below meth c D cA ad0 ad A H locs lsB C G sw P Dj S (lv_sub (lc_store (P := fun a b => !(a == i) && (!(a == i + 1) && !(a + 1 == i && b == 2))) LB) ks (lm_pick (hy ▸ hl))))
theorem e_astore_n {k0 : Fin 4} {i : Nat} {x : Nat} (hd : decode μ.2.1 pc = .ok (.astore_n k0, 1)) (hi : (k0 : Nat) = i) (hn : i < μ.2.2.1) {y : Nat} (hy : x = y) {ls' : List (Nat × Value)} (ks : List Nat) (hl : lv_pick ((i, .ref y) :: ls.filter (fun q => !(q.1 == i) && !(q.1 + 1 == i && q.2.category == 2))) ks = ls') {pc2 : Nat} (hp2 : pc + 1 = pc2) (k : Ev d μ N0 v N' h' pc2 N ls' (st) h) : Ev d μ N0 v N' h' (pc) N ls (.ref x :: st) h := by
  subst hp2
  exact fun p l e s m args below meth c D cA ad0 ad A H locs lsA C G sw P Dj S L => lv_astore_n C.1 C.2.1 hd hi L hn rfl (fun lsB LB => k p l e s m args below meth c D cA ad0 ad A H locs lsB C G sw P Dj S (lv_sub (lc_store (P := fun a b => !(a == i) && !(a + 1 == i && b == 2)) LB) ks (lm_pick (hy ▸ hl))))
theorem e_astore_nN {k0 : Fin 4} {i : Nat} (hd : decode μ.2.1 pc = .ok (.astore_n k0, 1)) (hi : (k0 : Nat) = i) (hn : i < μ.2.2.1) {ls' : List (Nat × Value)} (ks : List Nat) (hl : lv_pick ((i, .null) :: ls.filter (fun q => !(q.1 == i) && !(q.1 + 1 == i && q.2.category == 2))) ks = ls') {pc2 : Nat} (hp2 : pc + 1 = pc2) (k : Ev d μ N0 v N' h' pc2 N ls' (st) h) : Ev d μ N0 v N' h' (pc) N ls (.null :: st) h := by
  subst hp2
  exact fun p l e s m args below meth c D cA ad0 ad A H locs lsA C G sw P Dj S L => lv_astore_nN C.1 C.2.1 hd hi L hn rfl (fun lsB LB => k p l e s m args below meth c D cA ad0 ad A H locs lsB C G sw P Dj S (lv_sub (lc_store (P := fun a b => !(a == i) && !(a + 1 == i && b == 2)) LB) ks (lm_pick hl)))
theorem e_istore {i : Nat} {x : Int32} (hd : decode μ.2.1 pc = .ok (.istore i, 2)) (hn : i < μ.2.2.1) {y : Int32} (hy : x = y) {ls' : List (Nat × Value)} (ks : List Nat) (hl : lv_pick ((i, .int y) :: ls.filter (fun q => !(q.1 == i) && !(q.1 + 1 == i && q.2.category == 2))) ks = ls') {pc2 : Nat} (hp2 : pc + 2 = pc2) (k : Ev d μ N0 v N' h' pc2 N ls' (st) h) : Ev d μ N0 v N' h' (pc) N ls (.int x :: st) h := by
  subst hp2
  exact fun p l e s m args below meth c D cA ad0 ad A H locs lsA C G sw P Dj S L => lv_istore C.1 C.2.1 hd L hn rfl (fun lsB LB => k p l e s m args below meth c D cA ad0 ad A H locs lsB C G sw P Dj S (lv_sub (lc_store (P := fun a b => !(a == i) && !(a + 1 == i && b == 2)) LB) ks (lm_pick (hy ▸ hl))))
theorem e_lstore {i : Nat} {x : Int64} (hd : decode μ.2.1 pc = .ok (.lstore i, 2)) (hn : i + 1 < μ.2.2.1) {y : Int64} (hy : x = y) {ls' : List (Nat × Value)} (ks : List Nat) (hl : lv_pick ((i, .long y) :: ls.filter (fun q => !(q.1 == i) && (!(q.1 == i + 1) && !(q.1 + 1 == i && q.2.category == 2)))) ks = ls') {pc2 : Nat} (hp2 : pc + 2 = pc2) (k : Ev d μ N0 v N' h' pc2 N ls' (st) h) : Ev d μ N0 v N' h' (pc) N ls (.long x :: st) h := by
  subst hp2
  exact fun p l e s m args below meth c D cA ad0 ad A H locs lsA C G sw P Dj S L => lv_lstore C.1 C.2.1 hd L hn rfl (fun lsB LB => k p l e s m args below meth c D cA ad0 ad A H locs lsB C G sw P Dj S (lv_sub (lc_store (P := fun a b => !(a == i) && (!(a == i + 1) && !(a + 1 == i && b == 2))) LB) ks (lm_pick (hy ▸ hl))))
theorem e_astore {i : Nat} {x : Nat} (hd : decode μ.2.1 pc = .ok (.astore i, 2)) (hn : i < μ.2.2.1) {y : Nat} (hy : x = y) {ls' : List (Nat × Value)} (ks : List Nat) (hl : lv_pick ((i, .ref y) :: ls.filter (fun q => !(q.1 == i) && !(q.1 + 1 == i && q.2.category == 2))) ks = ls') {pc2 : Nat} (hp2 : pc + 2 = pc2) (k : Ev d μ N0 v N' h' pc2 N ls' (st) h) : Ev d μ N0 v N' h' (pc) N ls (.ref x :: st) h := by
  subst hp2
  exact fun p l e s m args below meth c D cA ad0 ad A H locs lsA C G sw P Dj S L => lv_astore C.1 C.2.1 hd L hn rfl (fun lsB LB => k p l e s m args below meth c D cA ad0 ad A H locs lsB C G sw P Dj S (lv_sub (lc_store (P := fun a b => !(a == i) && !(a + 1 == i && b == 2)) LB) ks (lm_pick (hy ▸ hl))))
theorem e_astoreN {i : Nat} (hd : decode μ.2.1 pc = .ok (.astore i, 2)) (hn : i < μ.2.2.1) {ls' : List (Nat × Value)} (ks : List Nat) (hl : lv_pick ((i, .null) :: ls.filter (fun q => !(q.1 == i) && !(q.1 + 1 == i && q.2.category == 2))) ks = ls') {pc2 : Nat} (hp2 : pc + 2 = pc2) (k : Ev d μ N0 v N' h' pc2 N ls' (st) h) : Ev d μ N0 v N' h' (pc) N ls (.null :: st) h := by
  subst hp2
  exact fun p l e s m args below meth c D cA ad0 ad A H locs lsA C G sw P Dj S L => lv_astoreN C.1 C.2.1 hd L hn rfl (fun lsB LB => k p l e s m args below meth c D cA ad0 ad A H locs lsB C G sw P Dj S (lv_sub (lc_store (P := fun a b => !(a == i) && !(a + 1 == i && b == 2)) LB) ks (lm_pick hl)))
theorem e_iinc {i : Nat} {n : Int} {x y : Int32} (hd : decode μ.2.1 pc = .ok (.iinc i n, 3)) (kk : Nat) (hk : ls[kk]? = some (i, .int x)) {c9 : Int32} (hc : Int32.ofInt n = c9) (hy : x + c9 = y) (hn : i < μ.2.2.1) {ls' : List (Nat × Value)} (ks : List Nat) (hl : lv_pick ((i, .int y) :: ls.filter (fun q => !(q.1 == i) && !(q.1 + 1 == i && q.2.category == 2))) ks = ls') {pc2 : Nat} (hp2 : pc + 3 = pc2) (k : Ev d μ N0 v N' h' pc2 N ls' (st) h) : Ev d μ N0 v N' h' (pc) N ls (st) h := by
  subst hp2
  exact fun p l e s m args below meth c D cA ad0 ad A H locs lsA C G sw P Dj S L => lv_iinc C.1 C.2.1 hd L (lm_at hk) (by rw [hc]; exact hy) hn rfl (fun lsB LB => k p l e s m args below meth c D cA ad0 ad A H locs lsB C G sw P Dj S (lv_sub (lc_store (P := fun a b => !(a == i) && !(a + 1 == i && b == 2)) LB) ks (lm_pick hl)))
theorem e_iadd {x y : Int32} (hd : decode μ.2.1 pc = .ok (.iadd, 1)) {pc2 : Nat} (hp2 : pc + 1 = pc2) (k : Ev d μ N0 v N' h' pc2 N ls (.int (x + y) :: st) h) : Ev d μ N0 v N' h' (pc) N ls (.int y :: .int x :: st) h := by
  subst hp2
  exact fun p l e s m args below meth c D cA ad0 ad A H locs lsA C G sw P Dj S L => lv_iadd C.1 C.2.1 hd (k p l e s m args below meth c D cA ad0 ad A H locs lsA C G sw P Dj S L)
theorem e_isub {x y : Int32} (hd : decode μ.2.1 pc = .ok (.isub, 1)) {pc2 : Nat} (hp2 : pc + 1 = pc2) (k : Ev d μ N0 v N' h' pc2 N ls (.int (x - y) :: st) h) : Ev d μ N0 v N' h' (pc) N ls (.int y :: .int x :: st) h := by
  subst hp2
  exact fun p l e s m args below meth c D cA ad0 ad A H locs lsA C G sw P Dj S L => lv_isub C.1 C.2.1 hd (k p l e s m args below meth c D cA ad0 ad A H locs lsA C G sw P Dj S L)
theorem e_imul {x y : Int32} (hd : decode μ.2.1 pc = .ok (.imul, 1)) {pc2 : Nat} (hp2 : pc + 1 = pc2) (k : Ev d μ N0 v N' h' pc2 N ls (.int (x * y) :: st) h) : Ev d μ N0 v N' h' (pc) N ls (.int y :: .int x :: st) h := by
  subst hp2
  exact fun p l e s m args below meth c D cA ad0 ad A H locs lsA C G sw P Dj S L => lv_imul C.1 C.2.1 hd (k p l e s m args below meth c D cA ad0 ad A H locs lsA C G sw P Dj S L)
theorem e_iand {x y : Int32} (hd : decode μ.2.1 pc = .ok (.iand, 1)) {pc2 : Nat} (hp2 : pc + 1 = pc2) (k : Ev d μ N0 v N' h' pc2 N ls (.int (x &&& y) :: st) h) : Ev d μ N0 v N' h' (pc) N ls (.int y :: .int x :: st) h := by
  subst hp2
  exact fun p l e s m args below meth c D cA ad0 ad A H locs lsA C G sw P Dj S L => lv_iand C.1 C.2.1 hd (k p l e s m args below meth c D cA ad0 ad A H locs lsA C G sw P Dj S L)
theorem e_ior {x y : Int32} (hd : decode μ.2.1 pc = .ok (.ior, 1)) {pc2 : Nat} (hp2 : pc + 1 = pc2) (k : Ev d μ N0 v N' h' pc2 N ls (.int (x ||| y) :: st) h) : Ev d μ N0 v N' h' (pc) N ls (.int y :: .int x :: st) h := by
  subst hp2
  exact fun p l e s m args below meth c D cA ad0 ad A H locs lsA C G sw P Dj S L => lv_ior C.1 C.2.1 hd (k p l e s m args below meth c D cA ad0 ad A H locs lsA C G sw P Dj S L)
theorem e_ixor {x y : Int32} (hd : decode μ.2.1 pc = .ok (.ixor, 1)) {pc2 : Nat} (hp2 : pc + 1 = pc2) (k : Ev d μ N0 v N' h' pc2 N ls (.int (x ^^^ y) :: st) h) : Ev d μ N0 v N' h' (pc) N ls (.int y :: .int x :: st) h := by
  subst hp2
  exact fun p l e s m args below meth c D cA ad0 ad A H locs lsA C G sw P Dj S L => lv_ixor C.1 C.2.1 hd (k p l e s m args below meth c D cA ad0 ad A H locs lsA C G sw P Dj S L)
theorem e_ishl {x y : Int32} (hd : decode μ.2.1 pc = .ok (.ishl, 1)) {pc2 : Nat} (hp2 : pc + 1 = pc2) (k : Ev d μ N0 v N' h' pc2 N ls (.int (x <<< (y &&& 31)) :: st) h) : Ev d μ N0 v N' h' (pc) N ls (.int y :: .int x :: st) h := by
  subst hp2
  exact fun p l e s m args below meth c D cA ad0 ad A H locs lsA C G sw P Dj S L => lv_ishl C.1 C.2.1 hd (k p l e s m args below meth c D cA ad0 ad A H locs lsA C G sw P Dj S L)
theorem e_ishr {x y : Int32} (hd : decode μ.2.1 pc = .ok (.ishr, 1)) {pc2 : Nat} (hp2 : pc + 1 = pc2) (k : Ev d μ N0 v N' h' pc2 N ls (.int (x >>> (y &&& 31)) :: st) h) : Ev d μ N0 v N' h' (pc) N ls (.int y :: .int x :: st) h := by
  subst hp2
  exact fun p l e s m args below meth c D cA ad0 ad A H locs lsA C G sw P Dj S L => lv_ishr C.1 C.2.1 hd (k p l e s m args below meth c D cA ad0 ad A H locs lsA C G sw P Dj S L)
theorem e_idiv {x y : Int32} (hd : decode μ.2.1 pc = .ok (.idiv, 1)) (hy : ¬ y = 0) {pc2 : Nat} (hp2 : pc + 1 = pc2) (k : Ev d μ N0 v N' h' pc2 N ls (.int (x / y) :: st) h) : Ev d μ N0 v N' h' (pc) N ls (.int y :: .int x :: st) h := by
  subst hp2
  exact fun p l e s m args below meth c D cA ad0 ad A H locs lsA C G sw P Dj S L => lv_idiv C.1 C.2.1 hd hy (k p l e s m args below meth c D cA ad0 ad A H locs lsA C G sw P Dj S L)
theorem e_ladd {x y : Int64} (hd : decode μ.2.1 pc = .ok (.ladd, 1)) {pc2 : Nat} (hp2 : pc + 1 = pc2) (k : Ev d μ N0 v N' h' pc2 N ls (.long (x + y) :: st) h) : Ev d μ N0 v N' h' (pc) N ls (.long y :: .long x :: st) h := by
  subst hp2
  exact fun p l e s m args below meth c D cA ad0 ad A H locs lsA C G sw P Dj S L => lv_ladd C.1 C.2.1 hd (k p l e s m args below meth c D cA ad0 ad A H locs lsA C G sw P Dj S L)
theorem e_lsub {x y : Int64} (hd : decode μ.2.1 pc = .ok (.lsub, 1)) {pc2 : Nat} (hp2 : pc + 1 = pc2) (k : Ev d μ N0 v N' h' pc2 N ls (.long (x - y) :: st) h) : Ev d μ N0 v N' h' (pc) N ls (.long y :: .long x :: st) h := by
  subst hp2
  exact fun p l e s m args below meth c D cA ad0 ad A H locs lsA C G sw P Dj S L => lv_lsub C.1 C.2.1 hd (k p l e s m args below meth c D cA ad0 ad A H locs lsA C G sw P Dj S L)
theorem e_lmul {x y : Int64} (hd : decode μ.2.1 pc = .ok (.lmul, 1)) {pc2 : Nat} (hp2 : pc + 1 = pc2) (k : Ev d μ N0 v N' h' pc2 N ls (.long (x * y) :: st) h) : Ev d μ N0 v N' h' (pc) N ls (.long y :: .long x :: st) h := by
  subst hp2
  exact fun p l e s m args below meth c D cA ad0 ad A H locs lsA C G sw P Dj S L => lv_lmul C.1 C.2.1 hd (k p l e s m args below meth c D cA ad0 ad A H locs lsA C G sw P Dj S L)
theorem e_land {x y : Int64} (hd : decode μ.2.1 pc = .ok (.land, 1)) {pc2 : Nat} (hp2 : pc + 1 = pc2) (k : Ev d μ N0 v N' h' pc2 N ls (.long (x &&& y) :: st) h) : Ev d μ N0 v N' h' (pc) N ls (.long y :: .long x :: st) h := by
  subst hp2
  exact fun p l e s m args below meth c D cA ad0 ad A H locs lsA C G sw P Dj S L => lv_land C.1 C.2.1 hd (k p l e s m args below meth c D cA ad0 ad A H locs lsA C G sw P Dj S L)
theorem e_lor {x y : Int64} (hd : decode μ.2.1 pc = .ok (.lor, 1)) {pc2 : Nat} (hp2 : pc + 1 = pc2) (k : Ev d μ N0 v N' h' pc2 N ls (.long (x ||| y) :: st) h) : Ev d μ N0 v N' h' (pc) N ls (.long y :: .long x :: st) h := by
  subst hp2
  exact fun p l e s m args below meth c D cA ad0 ad A H locs lsA C G sw P Dj S L => lv_lor C.1 C.2.1 hd (k p l e s m args below meth c D cA ad0 ad A H locs lsA C G sw P Dj S L)
theorem e_ldiv {x y : Int64} (hd : decode μ.2.1 pc = .ok (.ldiv, 1)) (hy : ¬ y = 0) {pc2 : Nat} (hp2 : pc + 1 = pc2) (k : Ev d μ N0 v N' h' pc2 N ls (.long (x / y) :: st) h) : Ev d μ N0 v N' h' (pc) N ls (.long y :: .long x :: st) h := by
  subst hp2
  exact fun p l e s m args below meth c D cA ad0 ad A H locs lsA C G sw P Dj S L => lv_ldiv C.1 C.2.1 hd hy (k p l e s m args below meth c D cA ad0 ad A H locs lsA C G sw P Dj S L)
theorem e_lrem {x y : Int64} (hd : decode μ.2.1 pc = .ok (.lrem, 1)) (hy : ¬ y = 0) {pc2 : Nat} (hp2 : pc + 1 = pc2) (k : Ev d μ N0 v N' h' pc2 N ls (.long (x - x / y * y) :: st) h) : Ev d μ N0 v N' h' (pc) N ls (.long y :: .long x :: st) h := by
  subst hp2
  exact fun p l e s m args below meth c D cA ad0 ad A H locs lsA C G sw P Dj S L => lv_lrem C.1 C.2.1 hd hy (k p l e s m args below meth c D cA ad0 ad A H locs lsA C G sw P Dj S L)
theorem e_lshl {x : Int64} {y : Int32} (hd : decode μ.2.1 pc = .ok (.lshl, 1)) {pc2 : Nat} (hp2 : pc + 1 = pc2) (k : Ev d μ N0 v N' h' pc2 N ls (.long (x <<< (y.toInt64 &&& 63)) :: st) h) : Ev d μ N0 v N' h' (pc) N ls (.int y :: .long x :: st) h := by
  subst hp2
  exact fun p l e s m args below meth c D cA ad0 ad A H locs lsA C G sw P Dj S L => lv_lshl C.1 C.2.1 hd rfl (k p l e s m args below meth c D cA ad0 ad A H locs lsA C G sw P Dj S L)
theorem e_lushr {x : Int64} {y : Int32} (hd : decode μ.2.1 pc = .ok (.lushr, 1)) {pc2 : Nat} (hp2 : pc + 1 = pc2) (k : Ev d μ N0 v N' h' pc2 N ls (.long ((x.toUInt64 >>> (y.toInt64.toUInt64 &&& Int64.toUInt64 63)).toInt64) :: st) h) : Ev d μ N0 v N' h' (pc) N ls (.int y :: .long x :: st) h := by
  subst hp2
  exact fun p l e s m args below meth c D cA ad0 ad A H locs lsA C G sw P Dj S L => lv_lushr C.1 C.2.1 hd rfl (k p l e s m args below meth c D cA ad0 ad A H locs lsA C G sw P Dj S L)
theorem e_iushr {x y : Int32} (hd : decode μ.2.1 pc = .ok (.iushr, 1)) {pc2 : Nat} (hp2 : pc + 1 = pc2) (k : Ev d μ N0 v N' h' pc2 N ls (.int ((x.toUInt32 >>> (y.toUInt32 &&& Int32.toUInt32 31)).toInt32) :: st) h) : Ev d μ N0 v N' h' (pc) N ls (.int y :: .int x :: st) h := by
  subst hp2
  exact fun p l e s m args below meth c D cA ad0 ad A H locs lsA C G sw P Dj S L => lv_iushr C.1 C.2.1 hd rfl (k p l e s m args below meth c D cA ad0 ad A H locs lsA C G sw P Dj S L)
theorem e_lcmp {x y : Int64} (hd : decode μ.2.1 pc = .ok (.lcmp, 1)) {pc2 : Nat} (hp2 : pc + 1 = pc2) (k : Ev d μ N0 v N' h' pc2 N ls (.int (lg_cmp x y) :: st) h) : Ev d μ N0 v N' h' (pc) N ls (.long y :: .long x :: st) h := by
  subst hp2
  exact fun p l e s m args below meth c D cA ad0 ad A H locs lsA C G sw P Dj S L => W.lcmp C.1 C.2.1 hd (k p l e s m args below meth c D cA ad0 ad A H locs lsA C G sw P Dj S L)
theorem e_i2l {x : Int32} (hd : decode μ.2.1 pc = .ok (.i2l, 1)) {pc2 : Nat} (hp2 : pc + 1 = pc2) (k : Ev d μ N0 v N' h' pc2 N ls (.long x.toInt64 :: st) h) : Ev d μ N0 v N' h' (pc) N ls (.int x :: st) h := by
  subst hp2
  exact fun p l e s m args below meth c D cA ad0 ad A H locs lsA C G sw P Dj S L => lv_i2l C.1 C.2.1 hd rfl (k p l e s m args below meth c D cA ad0 ad A H locs lsA C G sw P Dj S L)
theorem e_l2i {x : Int64} (hd : decode μ.2.1 pc = .ok (.l2i, 1)) {pc2 : Nat} (hp2 : pc + 1 = pc2) (k : Ev d μ N0 v N' h' pc2 N ls (.int x.toInt32 :: st) h) : Ev d μ N0 v N' h' (pc) N ls (.long x :: st) h := by
  subst hp2
  exact fun p l e s m args below meth c D cA ad0 ad A H locs lsA C G sw P Dj S L => lv_l2i C.1 C.2.1 hd rfl (k p l e s m args below meth c D cA ad0 ad A H locs lsA C G sw P Dj S L)
theorem e_i2c {x : Int32} (hd : decode μ.2.1 pc = .ok (.i2c, 1)) {pc2 : Nat} (hp2 : pc + 1 = pc2) (k : Ev d μ N0 v N' h' pc2 N ls (.int (x.toUInt32 % 65536).toInt32 :: st) h) : Ev d μ N0 v N' h' (pc) N ls (.int x :: st) h := by
  subst hp2
  exact fun p l e s m args below meth c D cA ad0 ad A H locs lsA C G sw P Dj S L => lv_i2c C.1 C.2.1 hd rfl (k p l e s m args below meth c D cA ad0 ad A H locs lsA C G sw P Dj S L)
theorem e_dup {x : Value} (hd : decode μ.2.1 pc = .ok (.dup, 1)) (hx : x.category = 1) {pc2 : Nat} (hp2 : pc + 1 = pc2) (k : Ev d μ N0 v N' h' pc2 N ls (x :: x :: st) h) : Ev d μ N0 v N' h' (pc) N ls (x :: st) h := by
  subst hp2
  exact fun p l e s m args below meth c D cA ad0 ad A H locs lsA C G sw P Dj S L => lv_dup C.1 C.2.1 hd ((cv_cat ad x).trans hx) (k p l e s m args below meth c D cA ad0 ad A H locs lsA C G sw P Dj S L)
theorem e_dup2 {x y : Value} (hd : decode μ.2.1 pc = .ok (.dup2, 1)) (hx : x.category = 1) (hy : y.category = 1) {pc2 : Nat} (hp2 : pc + 1 = pc2) (k : Ev d μ N0 v N' h' pc2 N ls (x :: y :: x :: y :: st) h) : Ev d μ N0 v N' h' (pc) N ls (x :: y :: st) h := by
  subst hp2
  exact fun p l e s m args below meth c D cA ad0 ad A H locs lsA C G sw P Dj S L => lv_dup2_11 C.1 C.2.1 hd ((cv_cat ad x).trans hx) ((cv_cat ad y).trans hy) (k p l e s m args below meth c D cA ad0 ad A H locs lsA C G sw P Dj S L)
theorem e_pop {x : Value} (hd : decode μ.2.1 pc = .ok (.pop, 1)) (hx : x.category = 1) {pc2 : Nat} (hp2 : pc + 1 = pc2) (k : Ev d μ N0 v N' h' pc2 N ls (st) h) : Ev d μ N0 v N' h' (pc) N ls (x :: st) h := by
  subst hp2
  exact fun p l e s m args below meth c D cA ad0 ad A H locs lsA C G sw P Dj S L => lv_pop C.1 C.2.1 hd ((cv_cat ad x).trans hx) (k p l e s m args below meth c D cA ad0 ad A H locs lsA C G sw P Dj S L)
theorem e_if_eq {x : Int32} {off : Int} {tgt : Nat} (hd : decode μ.2.1 pc = .ok (.ifCond .eq off, 3)) (ht : (pc : Int) + off = (tgt : Int)) {pc2 : Nat} (hp2 : pc + 3 = pc2) (kt : x = 0 → Ev d μ N0 v N' h' (tgt) N ls (st) h) (kf : ¬ x = 0 → Ev d μ N0 v N' h' pc2 N ls (st) h) : Ev d μ N0 v N' h' (pc) N ls (.int x :: st) h := by
  subst hp2
  exact fun p l e s m args below meth c D cA ad0 ad A H locs lsA C G sw P Dj S L => lv_if_eq C.1 C.2.1 hd ht (fun z => kt z p l e s m args below meth c D cA ad0 ad A H locs lsA C G sw P Dj S L) (fun z => kf z p l e s m args below meth c D cA ad0 ad A H locs lsA C G sw P Dj S L)
theorem e_if_ne {x : Int32} {off : Int} {tgt : Nat} (hd : decode μ.2.1 pc = .ok (.ifCond .ne off, 3)) (ht : (pc : Int) + off = (tgt : Int)) {pc2 : Nat} (hp2 : pc + 3 = pc2) (kt : ¬ x = 0 → Ev d μ N0 v N' h' (tgt) N ls (st) h) (kf : x = 0 → Ev d μ N0 v N' h' pc2 N ls (st) h) : Ev d μ N0 v N' h' (pc) N ls (.int x :: st) h := by
  subst hp2
  exact fun p l e s m args below meth c D cA ad0 ad A H locs lsA C G sw P Dj S L => lv_if_ne C.1 C.2.1 hd ht (fun z => kt z p l e s m args below meth c D cA ad0 ad A H locs lsA C G sw P Dj S L) (fun z => kf z p l e s m args below meth c D cA ad0 ad A H locs lsA C G sw P Dj S L)
theorem e_if_lt {x : Int32} {off : Int} {tgt : Nat} (hd : decode μ.2.1 pc = .ok (.ifCond .lt off, 3)) (ht : (pc : Int) + off = (tgt : Int)) {pc2 : Nat} (hp2 : pc + 3 = pc2) (kt : x < 0 → Ev d μ N0 v N' h' (tgt) N ls (st) h) (kf : ¬ x < 0 → Ev d μ N0 v N' h' pc2 N ls (st) h) : Ev d μ N0 v N' h' (pc) N ls (.int x :: st) h := by
  subst hp2
  exact fun p l e s m args below meth c D cA ad0 ad A H locs lsA C G sw P Dj S L => lv_if_lt C.1 C.2.1 hd ht (fun z => kt z p l e s m args below meth c D cA ad0 ad A H locs lsA C G sw P Dj S L) (fun z => kf z p l e s m args below meth c D cA ad0 ad A H locs lsA C G sw P Dj S L)
theorem e_if_ge {x : Int32} {off : Int} {tgt : Nat} (hd : decode μ.2.1 pc = .ok (.ifCond .ge off, 3)) (ht : (pc : Int) + off = (tgt : Int)) {pc2 : Nat} (hp2 : pc + 3 = pc2) (kt : 0 ≤ x → Ev d μ N0 v N' h' (tgt) N ls (st) h) (kf : ¬ 0 ≤ x → Ev d μ N0 v N' h' pc2 N ls (st) h) : Ev d μ N0 v N' h' (pc) N ls (.int x :: st) h := by
  subst hp2
  exact fun p l e s m args below meth c D cA ad0 ad A H locs lsA C G sw P Dj S L => lv_if_ge C.1 C.2.1 hd ht (fun z => kt z p l e s m args below meth c D cA ad0 ad A H locs lsA C G sw P Dj S L) (fun z => kf z p l e s m args below meth c D cA ad0 ad A H locs lsA C G sw P Dj S L)
theorem e_if_gt {x : Int32} {off : Int} {tgt : Nat} (hd : decode μ.2.1 pc = .ok (.ifCond .gt off, 3)) (ht : (pc : Int) + off = (tgt : Int)) {pc2 : Nat} (hp2 : pc + 3 = pc2) (kt : 0 < x → Ev d μ N0 v N' h' (tgt) N ls (st) h) (kf : ¬ 0 < x → Ev d μ N0 v N' h' pc2 N ls (st) h) : Ev d μ N0 v N' h' (pc) N ls (.int x :: st) h := by
  subst hp2
  exact fun p l e s m args below meth c D cA ad0 ad A H locs lsA C G sw P Dj S L => lv_if_gt C.1 C.2.1 hd ht (fun z => kt z p l e s m args below meth c D cA ad0 ad A H locs lsA C G sw P Dj S L) (fun z => kf z p l e s m args below meth c D cA ad0 ad A H locs lsA C G sw P Dj S L)
theorem e_if_le {x : Int32} {off : Int} {tgt : Nat} (hd : decode μ.2.1 pc = .ok (.ifCond .le off, 3)) (ht : (pc : Int) + off = (tgt : Int)) {pc2 : Nat} (hp2 : pc + 3 = pc2) (kt : x ≤ 0 → Ev d μ N0 v N' h' (tgt) N ls (st) h) (kf : ¬ x ≤ 0 → Ev d μ N0 v N' h' pc2 N ls (st) h) : Ev d μ N0 v N' h' (pc) N ls (.int x :: st) h := by
  subst hp2
  exact fun p l e s m args below meth c D cA ad0 ad A H locs lsA C G sw P Dj S L => lv_if_le C.1 C.2.1 hd ht (fun z => kt z p l e s m args below meth c D cA ad0 ad A H locs lsA C G sw P Dj S L) (fun z => kf z p l e s m args below meth c D cA ad0 ad A H locs lsA C G sw P Dj S L)
theorem e_icmp_eq {x y : Int32} {off : Int} {tgt : Nat} (hd : decode μ.2.1 pc = .ok (.if_icmp .eq off, 3)) (ht : (pc : Int) + off = (tgt : Int)) {pc2 : Nat} (hp2 : pc + 3 = pc2) (kt : x = y → Ev d μ N0 v N' h' (tgt) N ls (st) h) (kf : ¬ x = y → Ev d μ N0 v N' h' pc2 N ls (st) h) : Ev d μ N0 v N' h' (pc) N ls (.int y :: .int x :: st) h := by
  subst hp2
  exact fun p l e s m args below meth c D cA ad0 ad A H locs lsA C G sw P Dj S L => lv_icmp_eq C.1 C.2.1 hd ht (fun z => kt z p l e s m args below meth c D cA ad0 ad A H locs lsA C G sw P Dj S L) (fun z => kf z p l e s m args below meth c D cA ad0 ad A H locs lsA C G sw P Dj S L)
theorem e_icmp_ne {x y : Int32} {off : Int} {tgt : Nat} (hd : decode μ.2.1 pc = .ok (.if_icmp .ne off, 3)) (ht : (pc : Int) + off = (tgt : Int)) {pc2 : Nat} (hp2 : pc + 3 = pc2) (kt : ¬ x = y → Ev d μ N0 v N' h' (tgt) N ls (st) h) (kf : x = y → Ev d μ N0 v N' h' pc2 N ls (st) h) : Ev d μ N0 v N' h' (pc) N ls (.int y :: .int x :: st) h := by
  subst hp2
  exact fun p l e s m args below meth c D cA ad0 ad A H locs lsA C G sw P Dj S L => lv_icmp_ne C.1 C.2.1 hd ht (fun z => kt z p l e s m args below meth c D cA ad0 ad A H locs lsA C G sw P Dj S L) (fun z => kf z p l e s m args below meth c D cA ad0 ad A H locs lsA C G sw P Dj S L)
theorem e_icmp_lt {x y : Int32} {off : Int} {tgt : Nat} (hd : decode μ.2.1 pc = .ok (.if_icmp .lt off, 3)) (ht : (pc : Int) + off = (tgt : Int)) {pc2 : Nat} (hp2 : pc + 3 = pc2) (kt : x < y → Ev d μ N0 v N' h' (tgt) N ls (st) h) (kf : ¬ x < y → Ev d μ N0 v N' h' pc2 N ls (st) h) : Ev d μ N0 v N' h' (pc) N ls (.int y :: .int x :: st) h := by
  subst hp2
  exact fun p l e s m args below meth c D cA ad0 ad A H locs lsA C G sw P Dj S L => lv_icmp_lt C.1 C.2.1 hd ht (fun z => kt z p l e s m args below meth c D cA ad0 ad A H locs lsA C G sw P Dj S L) (fun z => kf z p l e s m args below meth c D cA ad0 ad A H locs lsA C G sw P Dj S L)
theorem e_icmp_ge {x y : Int32} {off : Int} {tgt : Nat} (hd : decode μ.2.1 pc = .ok (.if_icmp .ge off, 3)) (ht : (pc : Int) + off = (tgt : Int)) {pc2 : Nat} (hp2 : pc + 3 = pc2) (kt : y ≤ x → Ev d μ N0 v N' h' (tgt) N ls (st) h) (kf : ¬ y ≤ x → Ev d μ N0 v N' h' pc2 N ls (st) h) : Ev d μ N0 v N' h' (pc) N ls (.int y :: .int x :: st) h := by
  subst hp2
  exact fun p l e s m args below meth c D cA ad0 ad A H locs lsA C G sw P Dj S L => lv_icmp_ge C.1 C.2.1 hd ht (fun z => kt z p l e s m args below meth c D cA ad0 ad A H locs lsA C G sw P Dj S L) (fun z => kf z p l e s m args below meth c D cA ad0 ad A H locs lsA C G sw P Dj S L)
theorem e_icmp_gt {x y : Int32} {off : Int} {tgt : Nat} (hd : decode μ.2.1 pc = .ok (.if_icmp .gt off, 3)) (ht : (pc : Int) + off = (tgt : Int)) {pc2 : Nat} (hp2 : pc + 3 = pc2) (kt : y < x → Ev d μ N0 v N' h' (tgt) N ls (st) h) (kf : ¬ y < x → Ev d μ N0 v N' h' pc2 N ls (st) h) : Ev d μ N0 v N' h' (pc) N ls (.int y :: .int x :: st) h := by
  subst hp2
  exact fun p l e s m args below meth c D cA ad0 ad A H locs lsA C G sw P Dj S L => lv_icmp_gt C.1 C.2.1 hd ht (fun z => kt z p l e s m args below meth c D cA ad0 ad A H locs lsA C G sw P Dj S L) (fun z => kf z p l e s m args below meth c D cA ad0 ad A H locs lsA C G sw P Dj S L)
theorem e_icmp_le {x y : Int32} {off : Int} {tgt : Nat} (hd : decode μ.2.1 pc = .ok (.if_icmp .le off, 3)) (ht : (pc : Int) + off = (tgt : Int)) {pc2 : Nat} (hp2 : pc + 3 = pc2) (kt : x ≤ y → Ev d μ N0 v N' h' (tgt) N ls (st) h) (kf : ¬ x ≤ y → Ev d μ N0 v N' h' pc2 N ls (st) h) : Ev d μ N0 v N' h' (pc) N ls (.int y :: .int x :: st) h := by
  subst hp2
  exact fun p l e s m args below meth c D cA ad0 ad A H locs lsA C G sw P Dj S L => lv_icmp_le C.1 C.2.1 hd ht (fun z => kt z p l e s m args below meth c D cA ad0 ad A H locs lsA C G sw P Dj S L) (fun z => kf z p l e s m args below meth c D cA ad0 ad A H locs lsA C G sw P Dj S L)
theorem e_goto {off : Int} {tgt : Nat} (hd : decode μ.2.1 pc = .ok (.goto off, 3)) (ht : (pc : Int) + off = (tgt : Int)) (k : Ev d μ N0 v N' h' (tgt) N ls (st) h) : Ev d μ N0 v N' h' (pc) N ls (st) h := fun p l e s m args below meth c D cA ad0 ad A H locs lsA C G sw P Dj S L => lv_goto C.1 C.2.1 hd ht (k p l e s m args below meth c D cA ad0 ad A H locs lsA C G sw P Dj S L)
theorem e_ifnonnull {x : Nat} {off : Int} {tgt : Nat} (hd : decode μ.2.1 pc = .ok (.ifnonnull off, 3)) (ht : (pc : Int) + off = (tgt : Int)) (k : Ev d μ N0 v N' h' (tgt) N ls (st) h) : Ev d μ N0 v N' h' (pc) N ls (.ref x :: st) h := fun p l e s m args below meth c D cA ad0 ad A H locs lsA C G sw P Dj S L => lv_ifnonnull C.1 C.2.1 hd ht (k p l e s m args below meth c D cA ad0 ad A H locs lsA C G sw P Dj S L)
theorem e_ifnonnullN {off : Int} (hd : decode μ.2.1 pc = .ok (.ifnonnull off, 3)) {pc2 : Nat} (hp2 : pc + 3 = pc2) (k : Ev d μ N0 v N' h' pc2 N ls (st) h) : Ev d μ N0 v N' h' (pc) N ls (.null :: st) h := by
  subst hp2
  exact fun p l e s m args below meth c D cA ad0 ad A H locs lsA C G sw P Dj S L => lv_ifnonnullN C.1 C.2.1 hd (k p l e s m args below meth c D cA ad0 ad A H locs lsA C G sw P Dj S L)
theorem e_ifnull {x : Nat} {off : Int} (hd : decode μ.2.1 pc = .ok (.ifnull off, 3)) {pc2 : Nat} (hp2 : pc + 3 = pc2) (k : Ev d μ N0 v N' h' pc2 N ls (st) h) : Ev d μ N0 v N' h' (pc) N ls (.ref x :: st) h := by
  subst hp2
  exact fun p l e s m args below meth c D cA ad0 ad A H locs lsA C G sw P Dj S L => lv_ifnull C.1 C.2.1 hd (k p l e s m args below meth c D cA ad0 ad A H locs lsA C G sw P Dj S L)
theorem e_ifnullN {off : Int} {tgt : Nat} (hd : decode μ.2.1 pc = .ok (.ifnull off, 3)) (ht : (pc : Int) + off = (tgt : Int)) (k : Ev d μ N0 v N' h' (tgt) N ls (st) h) : Ev d μ N0 v N' h' (pc) N ls (.null :: st) h := fun p l e s m args below meth c D cA ad0 ad A H locs lsA C G sw P Dj S L => lv_ifnullN C.1 C.2.1 hd ht (k p l e s m args below meth c D cA ad0 ad A H locs lsA C G sw P Dj S L)
theorem e_tableOut {dflt lo hi : Int} {offs : Array Int} {len : Nat} {x : Int32} {tgt : Nat} (hd : decode μ.2.1 pc = .ok (.tableswitch dflt lo hi offs, len)) (hx : x.toInt < lo ∨ hi < x.toInt) (ht : (pc : Int) + dflt = (tgt : Int)) (k : Ev d μ N0 v N' h' (tgt) N ls (st) h) : Ev d μ N0 v N' h' (pc) N ls (.int x :: st) h := fun p l e s m args below meth c D cA ad0 ad A H locs lsA C G sw P Dj S L => lv_tableOut C.1 C.2.1 hd hx ht (k p l e s m args below meth c D cA ad0 ad A H locs lsA C G sw P Dj S L)
theorem e_tableIn {dflt lo hi : Int} {offs : Array Int} {len : Nat} {x : Int32} {off : Int} {tgt : Nat} (hd : decode μ.2.1 pc = .ok (.tableswitch dflt lo hi offs, len)) (h1 : ¬ x.toInt < lo) (h2 : ¬ hi < x.toInt) (ho : offs[(x.toInt - lo).toNat]? = some off) (ht : (pc : Int) + off = (tgt : Int)) (k : Ev d μ N0 v N' h' (tgt) N ls (st) h) : Ev d μ N0 v N' h' (pc) N ls (.int x :: st) h := fun p l e s m args below meth c D cA ad0 ad A H locs lsA C G sw P Dj S L => lv_tableIn C.1 C.2.1 hd h1 h2 ho ht (k p l e s m args below meth c D cA ad0 ad A H locs lsA C G sw P Dj S L)
theorem e_getI {idx ci k0 t o : Nat} (hf : FL μ.1.cls idx ci k0 t) (hd : decode μ.2.1 pc = .ok (.getfield idx, 3)) (ho : isO N o ci) (ht : t ≠ 1 ∧ t ≠ 2) {pc2 : Nat} (hp2 : pc + 3 = pc2) (k : Ev d μ N0 v N' h' pc2 N ls (.int (h.1 o k0) :: st) h) : Ev d μ N0 v N' h' (pc) N ls (.ref o :: st) h := by
  subst hp2
  obtain ⟨Cn, T, n, ty, hc, hin, hty, hnm, hn, hk, e0, hl, hr, hpd⟩ := hf
  subst e0
  exact fun p l e s m args below meth c D cA ad0 ad A H locs lsA C G sw P Dj S L => va_get (ref := Cn) C.1 C.2.1 C.2.2.2.2.2.1 hin C.2.2.2.2.1 C.2.2.2.2.2.2.2.2.1 P (o - 1) (wl_o ho) hc k0 hk (C.2.2.2.2.2.1 _ hl) (fun _ z => by rw [hr] at z; exact z) ((flds_get (by rw [hn]; exact hk)).trans (by rw [fv_i ht]; rfl)) hd (k p l e s m args below meth c D cA ad0 ad A H locs lsA C G sw P Dj S L)
theorem e_getL {idx ci k0 t o : Nat} (hf : FL μ.1.cls idx ci k0 t) (hd : decode μ.2.1 pc = .ok (.getfield idx, 3)) (ho : isO N o ci) (ht : t = 1) {pc2 : Nat} (hp2 : pc + 3 = pc2) (k : Ev d μ N0 v N' h' pc2 N ls (.long (h.2.1 o k0) :: st) h) : Ev d μ N0 v N' h' (pc) N ls (.ref o :: st) h := by
  subst hp2
  obtain ⟨Cn, T, n, ty, hc, hin, hty, hnm, hn, hk, e0, hl, hr, hpd⟩ := hf
  subst e0
  exact fun p l e s m args below meth c D cA ad0 ad A H locs lsA C G sw P Dj S L => va_get (ref := Cn) C.1 C.2.1 C.2.2.2.2.2.1 hin C.2.2.2.2.1 C.2.2.2.2.2.2.2.2.1 P (o - 1) (wl_o ho) hc k0 hk (C.2.2.2.2.2.1 _ hl) (fun _ z => by rw [hr] at z; exact z) ((flds_get (by rw [hn]; exact hk)).trans (by rw [fv_l ht]; rfl)) hd (k p l e s m args below meth c D cA ad0 ad A H locs lsA C G sw P Dj S L)
theorem e_getR {idx ci k0 o r : Nat} (hf : FL μ.1.cls idx ci k0 2) (hd : decode μ.2.1 pc = .ok (.getfield idx, 3)) (ho : isO N o ci) (hr0 : h.2.2 o k0 = r) (hr1 : r ≠ 0) {pc2 : Nat} (hp2 : pc + 3 = pc2) (k : Ev d μ N0 v N' h' pc2 N ls (.ref r :: st) h) : Ev d μ N0 v N' h' (pc) N ls (.ref o :: st) h := by
  subst hp2
  obtain ⟨Cn, T, n, ty, hc, hin, hty, hnm, hn, hk, e0, hl, hr, hpd⟩ := hf
  exact fun p l e s m args below meth c D cA ad0 ad A H locs lsA C G sw P Dj S L => va_get (ref := Cn) C.1 C.2.1 C.2.2.2.2.2.1 hin C.2.2.2.2.1 C.2.2.2.2.2.2.2.2.1 P (o - 1) (wl_o ho) hc k0 hk (C.2.2.2.2.2.1 _ hl) (fun _ z => by rw [hr] at z; exact z) ((flds_get (by rw [hn]; exact hk)).trans (by rw [e0, fv_r hr0 hr1]; rfl)) hd (k p l e s m args below meth c D cA ad0 ad A H locs lsA C G sw P Dj S L)
theorem e_getRN {idx ci k0 o : Nat} (hf : FL μ.1.cls idx ci k0 2) (hd : decode μ.2.1 pc = .ok (.getfield idx, 3)) (ho : isO N o ci) (hr0 : h.2.2 o k0 = 0) {pc2 : Nat} (hp2 : pc + 3 = pc2) (k : Ev d μ N0 v N' h' pc2 N ls (.null :: st) h) : Ev d μ N0 v N' h' (pc) N ls (.ref o :: st) h := by
  subst hp2
  obtain ⟨Cn, T, n, ty, hc, hin, hty, hnm, hn, hk, e0, hl, hr, hpd⟩ := hf
  exact fun p l e s m args below meth c D cA ad0 ad A H locs lsA C G sw P Dj S L => va_get (ref := Cn) C.1 C.2.1 C.2.2.2.2.2.1 hin C.2.2.2.2.1 C.2.2.2.2.2.2.2.2.1 P (o - 1) (wl_o ho) hc k0 hk (C.2.2.2.2.2.1 _ hl) (fun _ z => by rw [hr] at z; exact z) ((flds_get (by rw [hn]; exact hk)).trans (by rw [e0, fv_n hr0]; rfl)) hd (k p l e s m args below meth c D cA ad0 ad A H locs lsA C G sw P Dj S L)
theorem e_putI {idx ci k0 o : Nat} {x : Int32} (hf : FL μ.1.cls idx ci k0 0) (hd : decode μ.2.1 pc = .ok (.putfield idx, 3)) (ho : isO N o ci) (hfin : FN ci k0 false) {h2 : HP} (hq : (uI h o k0 x) = h2) {pc2 : Nat} (hp2 : pc + 3 = pc2) (k : Ev d μ N0 v N' h' pc2 N ls (st) h2) : Ev d μ N0 v N' h' (pc) N ls (.int x :: .ref o :: st) h := by
  subst hp2
  subst hq
  obtain ⟨Cn, T, n, ty, hc, hin, hty, hnm, hn, hk, e0, hl, hr, hpd⟩ := hf
  obtain ⟨C9, T9, n9, hc9, hfin⟩ := hfin
  cases hc.symm.trans hc9
  refine fun p l e s m args below meth c D cA ad0 ad A H locs lsA C G sw P Dj S L => va_put (ref := Cn) C.1 C.2.1 C.2.2.2.2.2.1 hin ty hty hnm C.2.2.2.2.1 C.2.2.2.2.2.2.2.2.1 P Dj S (o - 1) (wl_o ho) hc k0 hk (C.2.2.2.2.2.1 _ hl) (fun _ z => by rw [hr] at z; exact z) hfin (hpd (by decide)) rfl rfl (by simp [flds, hn, hk]) hd (fun H1 locs1 P1 D1 S1 => ?_)
  have q9 := wl_putI (cA := cA) (ad := ad) (h := h) (x := x) ho (by rw [hn]; exact hk) (by rw [e0]; decide)
  have P1 : va_P D vwCl (wl cA ad N (uI h o k0 x)) H1 := by rw [← q9]; exact P1
  have D1 : va_D A (wl cA ad N (uI h o k0 x)) := by rw [← q9]; exact D1
  exact k p l e s m args below meth c D cA ad0 ad A H1 locs1 lsA C G sw P1 D1 S1 L
theorem e_putL {idx ci k0 o : Nat} {x : Int64} (hf : FL μ.1.cls idx ci k0 1) (hd : decode μ.2.1 pc = .ok (.putfield idx, 3)) (ho : isO N o ci) (hfin : FN ci k0 false) {h2 : HP} (hq : (uL h o k0 x) = h2) {pc2 : Nat} (hp2 : pc + 3 = pc2) (k : Ev d μ N0 v N' h' pc2 N ls (st) h2) : Ev d μ N0 v N' h' (pc) N ls (.long x :: .ref o :: st) h := by
  subst hp2
  subst hq
  obtain ⟨Cn, T, n, ty, hc, hin, hty, hnm, hn, hk, e0, hl, hr, hpd⟩ := hf
  obtain ⟨C9, T9, n9, hc9, hfin⟩ := hfin
  cases hc.symm.trans hc9
  refine fun p l e s m args below meth c D cA ad0 ad A H locs lsA C G sw P Dj S L => va_put (ref := Cn) C.1 C.2.1 C.2.2.2.2.2.1 hin ty hty hnm C.2.2.2.2.1 C.2.2.2.2.2.2.2.2.1 P Dj S (o - 1) (wl_o ho) hc k0 hk (C.2.2.2.2.2.1 _ hl) (fun _ z => by rw [hr] at z; exact z) hfin (hpd (by decide)) rfl rfl (by simp [flds, hn, hk]) hd (fun H1 locs1 P1 D1 S1 => ?_)
  have q9 := wl_putL (cA := cA) (ad := ad) (h := h) (x := x) ho (by rw [hn]; exact hk) e0
  have P1 : va_P D vwCl (wl cA ad N (uL h o k0 x)) H1 := by rw [← q9]; exact P1
  have D1 : va_D A (wl cA ad N (uL h o k0 x)) := by rw [← q9]; exact D1
  exact k p l e s m args below meth c D cA ad0 ad A H1 locs1 lsA C G sw P1 D1 S1 L
theorem e_putR {idx ci k0 o : Nat} {r : Nat} (hf : FL μ.1.cls idx ci k0 2) (hd : decode μ.2.1 pc = .ok (.putfield idx, 3)) (ho : isO N o ci) (hfin : FN ci k0 false) (hfr : FR ci k0) (hr1 : r ≠ 0) {h2 : HP} (hq : (uR h o k0 r) = h2) {pc2 : Nat} (hp2 : pc + 3 = pc2) (k : Ev d μ N0 v N' h' pc2 N ls (st) h2) : Ev d μ N0 v N' h' (pc) N ls (.ref r :: .ref o :: st) h := by
  subst hp2
  subst hq
  obtain ⟨Cn, T, n, ty, hc, hin, hty, hnm, hn, hk, e0, hl, hr, hpd⟩ := hf
  obtain ⟨C9, T9, n9, hc9, hfin⟩ := hfin
  cases hc.symm.trans hc9
  obtain ⟨C8, T8, n8, ty8, hc8, hq1, hq2, hq3, hq4⟩ := hfr
  cases hc.symm.trans hc8
  refine fun p l e s m args below meth c D cA ad0 ad A H locs lsA C G sw P Dj S L => va_put (ref := Cn) C.1 C.2.1 C.2.2.2.2.2.1 hin ty hty hnm C.2.2.2.2.1 C.2.2.2.2.2.2.2.2.1 P Dj S (o - 1) (wl_o ho) hc k0 hk (C.2.2.2.2.2.1 _ hl) (fun _ z => by rw [hr] at z; exact z) hfin hq1 (hq2 _).1 (hq2 _).2 (by simp [flds, hn, hk]) hd (fun H1 locs1 P1 D1 S1 => ?_)
  have q9 := wl_putRr (cA := cA) (ad := ad) (h := h) (x := r) ho (by rw [hn]; exact hk) ⟨e0, hr1⟩
  have P1 : va_P D vwCl (wl cA ad N (uR h o k0 r)) H1 := by rw [← q9]; exact P1
  have D1 : va_D A (wl cA ad N (uR h o k0 r)) := by rw [← q9]; exact D1
  exact k p l e s m args below meth c D cA ad0 ad A H1 locs1 lsA C G sw P1 D1 S1 L
theorem e_putRN {idx ci k0 o : Nat}  (hf : FL μ.1.cls idx ci k0 2) (hd : decode μ.2.1 pc = .ok (.putfield idx, 3)) (ho : isO N o ci) (hfin : FN ci k0 false) (hfr : FR ci k0) {h2 : HP} (hq : (uR h o k0 0) = h2) {pc2 : Nat} (hp2 : pc + 3 = pc2) (k : Ev d μ N0 v N' h' pc2 N ls (st) h2) : Ev d μ N0 v N' h' (pc) N ls (.null :: .ref o :: st) h := by
  subst hp2
  subst hq
  obtain ⟨Cn, T, n, ty, hc, hin, hty, hnm, hn, hk, e0, hl, hr, hpd⟩ := hf
  obtain ⟨C9, T9, n9, hc9, hfin⟩ := hfin
  cases hc.symm.trans hc9
  obtain ⟨C8, T8, n8, ty8, hc8, hq1, hq2, hq3, hq4⟩ := hfr
  cases hc.symm.trans hc8
  refine fun p l e s m args below meth c D cA ad0 ad A H locs lsA C G sw P Dj S L => va_put (ref := Cn) C.1 C.2.1 C.2.2.2.2.2.1 hin ty hty hnm C.2.2.2.2.1 C.2.2.2.2.2.2.2.2.1 P Dj S (o - 1) (wl_o ho) hc k0 hk (C.2.2.2.2.2.1 _ hl) (fun _ z => by rw [hr] at z; exact z) hfin hq1 hq3 hq4 (by simp [flds, hn, hk]) hd (fun H1 locs1 P1 D1 S1 => ?_)
  have q9 := wl_putRn (cA := cA) (ad := ad) (h := h)  ho (by rw [hn]; exact hk) e0
  have P1 : va_P D vwCl (wl cA ad N (uR h o k0 0)) H1 := by rw [← q9]; exact P1
  have D1 : va_D A (wl cA ad N (uR h o k0 0)) := by rw [← q9]; exact D1
  exact k p l e s m args below meth c D cA ad0 ad A H1 locs1 lsA C G sw P1 D1 S1 L
theorem e_putIF {idx ci k0 o : Nat} {x : Int32} (hf : FL μ.1.cls idx ci k0 0) (hd : decode μ.2.1 pc = .ok (.putfield idx, 3)) (ho : isO N o ci) (hfin : FN ci k0 true) (hi0 : μ.1.name = "<init>") (hci : RC ci = μ.1.cls) {h2 : HP} (hq : (uI h o k0 x) = h2) {pc2 : Nat} (hp2 : pc + 3 = pc2) (k : Ev d μ N0 v N' h' pc2 N ls (st) h2) : Ev d μ N0 v N' h' (pc) N ls (.int x :: .ref o :: st) h := by
  subst hp2
  subst hq
  obtain ⟨Cn, T, n, ty, hc, hin, hty, hnm, hn, hk, e0, hl, hr, hpd⟩ := hf
  obtain ⟨C9, T9, n9, hc9, hfin⟩ := hfin
  cases hc.symm.trans hc9
  have hdc : (T k0).1 = μ.1.cls := by rw [hr, ← hci]; simp only [RC, List.getD_eq_getElem?_getD, List.getElem?_map, hc]; rfl
  refine fun p l e s m args below meth c D cA ad0 ad A H locs lsA C G sw P Dj S L => va_putF (ref := Cn) C.1 C.2.1 C.2.2.2.2.2.1 hin ty hty hnm C.2.2.2.2.1 C.2.2.2.2.2.2.2.2.1 P Dj S (o - 1) (wl_o ho) hc k0 hk (C.2.2.2.2.2.1 _ hl) (fun _ z => by rw [hr] at z; exact z) hfin (C.2.2.2.2.2.2.1.trans hi0) hdc (hpd (by decide)) rfl rfl (by simp [flds, hn, hk]) hd (fun H1 locs1 P1 D1 S1 => ?_)
  have q9 := wl_putI (cA := cA) (ad := ad) (h := h) (x := x) ho (by rw [hn]; exact hk) (by rw [e0]; decide)
  have P1 : va_P D vwCl (wl cA ad N (uI h o k0 x)) H1 := by rw [← q9]; exact P1
  have D1 : va_D A (wl cA ad N (uI h o k0 x)) := by rw [← q9]; exact D1
  exact k p l e s m args below meth c D cA ad0 ad A H1 locs1 lsA C G sw P1 D1 S1 L
theorem e_putLF {idx ci k0 o : Nat} {x : Int64} (hf : FL μ.1.cls idx ci k0 1) (hd : decode μ.2.1 pc = .ok (.putfield idx, 3)) (ho : isO N o ci) (hfin : FN ci k0 true) (hi0 : μ.1.name = "<init>") (hci : RC ci = μ.1.cls) {h2 : HP} (hq : (uL h o k0 x) = h2) {pc2 : Nat} (hp2 : pc + 3 = pc2) (k : Ev d μ N0 v N' h' pc2 N ls (st) h2) : Ev d μ N0 v N' h' (pc) N ls (.long x :: .ref o :: st) h := by
  subst hp2
  subst hq
  obtain ⟨Cn, T, n, ty, hc, hin, hty, hnm, hn, hk, e0, hl, hr, hpd⟩ := hf
  obtain ⟨C9, T9, n9, hc9, hfin⟩ := hfin
  cases hc.symm.trans hc9
  have hdc : (T k0).1 = μ.1.cls := by rw [hr, ← hci]; simp only [RC, List.getD_eq_getElem?_getD, List.getElem?_map, hc]; rfl
  refine fun p l e s m args below meth c D cA ad0 ad A H locs lsA C G sw P Dj S L => va_putF (ref := Cn) C.1 C.2.1 C.2.2.2.2.2.1 hin ty hty hnm C.2.2.2.2.1 C.2.2.2.2.2.2.2.2.1 P Dj S (o - 1) (wl_o ho) hc k0 hk (C.2.2.2.2.2.1 _ hl) (fun _ z => by rw [hr] at z; exact z) hfin (C.2.2.2.2.2.2.1.trans hi0) hdc (hpd (by decide)) rfl rfl (by simp [flds, hn, hk]) hd (fun H1 locs1 P1 D1 S1 => ?_)
  have q9 := wl_putL (cA := cA) (ad := ad) (h := h) (x := x) ho (by rw [hn]; exact hk) e0
  have P1 : va_P D vwCl (wl cA ad N (uL h o k0 x)) H1 := by rw [← q9]; exact P1
  have D1 : va_D A (wl cA ad N (uL h o k0 x)) := by rw [← q9]; exact D1
  exact k p l e s m args below meth c D cA ad0 ad A H1 locs1 lsA C G sw P1 D1 S1 L
theorem e_putRF {idx ci k0 o : Nat} {r : Nat} (hf : FL μ.1.cls idx ci k0 2) (hd : decode μ.2.1 pc = .ok (.putfield idx, 3)) (ho : isO N o ci) (hfin : FN ci k0 true) (hi0 : μ.1.name = "<init>") (hci : RC ci = μ.1.cls) (hfr : FR ci k0) (hr1 : r ≠ 0) {h2 : HP} (hq : (uR h o k0 r) = h2) {pc2 : Nat} (hp2 : pc + 3 = pc2) (k : Ev d μ N0 v N' h' pc2 N ls (st) h2) : Ev d μ N0 v N' h' (pc) N ls (.ref r :: .ref o :: st) h := by
  subst hp2
  subst hq
  obtain ⟨Cn, T, n, ty, hc, hin, hty, hnm, hn, hk, e0, hl, hr, hpd⟩ := hf
  obtain ⟨C9, T9, n9, hc9, hfin⟩ := hfin
  cases hc.symm.trans hc9
  have hdc : (T k0).1 = μ.1.cls := by rw [hr, ← hci]; simp only [RC, List.getD_eq_getElem?_getD, List.getElem?_map, hc]; rfl
  obtain ⟨C8, T8, n8, ty8, hc8, hq1, hq2, hq3, hq4⟩ := hfr
  cases hc.symm.trans hc8
  refine fun p l e s m args below meth c D cA ad0 ad A H locs lsA C G sw P Dj S L => va_putF (ref := Cn) C.1 C.2.1 C.2.2.2.2.2.1 hin ty hty hnm C.2.2.2.2.1 C.2.2.2.2.2.2.2.2.1 P Dj S (o - 1) (wl_o ho) hc k0 hk (C.2.2.2.2.2.1 _ hl) (fun _ z => by rw [hr] at z; exact z) hfin (C.2.2.2.2.2.2.1.trans hi0) hdc hq1 (hq2 _).1 (hq2 _).2 (by simp [flds, hn, hk]) hd (fun H1 locs1 P1 D1 S1 => ?_)
  have q9 := wl_putRr (cA := cA) (ad := ad) (h := h) (x := r) ho (by rw [hn]; exact hk) ⟨e0, hr1⟩
  have P1 : va_P D vwCl (wl cA ad N (uR h o k0 r)) H1 := by rw [← q9]; exact P1
  have D1 : va_D A (wl cA ad N (uR h o k0 r)) := by rw [← q9]; exact D1
  exact k p l e s m args below meth c D cA ad0 ad A H1 locs1 lsA C G sw P1 D1 S1 L
theorem e_putRNF {idx ci k0 o : Nat}  (hf : FL μ.1.cls idx ci k0 2) (hd : decode μ.2.1 pc = .ok (.putfield idx, 3)) (ho : isO N o ci) (hfin : FN ci k0 true) (hi0 : μ.1.name = "<init>") (hci : RC ci = μ.1.cls) (hfr : FR ci k0) {h2 : HP} (hq : (uR h o k0 0) = h2) {pc2 : Nat} (hp2 : pc + 3 = pc2) (k : Ev d μ N0 v N' h' pc2 N ls (st) h2) : Ev d μ N0 v N' h' (pc) N ls (.null :: .ref o :: st) h := by
  subst hp2
  subst hq
  obtain ⟨Cn, T, n, ty, hc, hin, hty, hnm, hn, hk, e0, hl, hr, hpd⟩ := hf
  obtain ⟨C9, T9, n9, hc9, hfin⟩ := hfin
  cases hc.symm.trans hc9
  have hdc : (T k0).1 = μ.1.cls := by rw [hr, ← hci]; simp only [RC, List.getD_eq_getElem?_getD, List.getElem?_map, hc]; rfl
  obtain ⟨C8, T8, n8, ty8, hc8, hq1, hq2, hq3, hq4⟩ := hfr
  cases hc.symm.trans hc8
  refine fun p l e s m args below meth c D cA ad0 ad A H locs lsA C G sw P Dj S L => va_putF (ref := Cn) C.1 C.2.1 C.2.2.2.2.2.1 hin ty hty hnm C.2.2.2.2.1 C.2.2.2.2.2.2.2.2.1 P Dj S (o - 1) (wl_o ho) hc k0 hk (C.2.2.2.2.2.1 _ hl) (fun _ z => by rw [hr] at z; exact z) hfin (C.2.2.2.2.2.2.1.trans hi0) hdc hq1 hq3 hq4 (by simp [flds, hn, hk]) hd (fun H1 locs1 P1 D1 S1 => ?_)
  have q9 := wl_putRn (cA := cA) (ad := ad) (h := h)  ho (by rw [hn]; exact hk) e0
  have P1 : va_P D vwCl (wl cA ad N (uR h o k0 0)) H1 := by rw [← q9]; exact P1
  have D1 : va_D A (wl cA ad N (uR h o k0 0)) := by rw [← q9]; exact D1
  exact k p l e s m args below meth c D cA ad0 ad A H1 locs1 lsA C G sw P1 D1 S1 L
theorem e_putZ {idx ci k0 o : Nat} {x : Int32} (hf : FL μ.1.cls idx ci k0 3) (hd : decode μ.2.1 pc = .ok (.putfield idx, 3)) (ho : isO N o ci) (hfin : FN ci k0 false) (hx : narrow .boolean (.int x) = .int x) (hx2 : fits .boolean (.int x) = true) {h2 : HP} (hq : (uI h o k0 x) = h2) {pc2 : Nat} (hp2 : pc + 3 = pc2) (k : Ev d μ N0 v N' h' pc2 N ls (st) h2) : Ev d μ N0 v N' h' (pc) N ls (.int x :: .ref o :: st) h := by
  subst hp2
  subst hq
  obtain ⟨Cn, T, n, ty, hc, hin, hty, hnm, hn, hk, e0, hl, hr, hpd⟩ := hf
  obtain ⟨C9, T9, n9, hc9, hfin⟩ := hfin
  cases hc.symm.trans hc9
  refine fun p l e s m args below meth c D cA ad0 ad A H locs lsA C G sw P Dj S L => va_put (ref := Cn) C.1 C.2.1 C.2.2.2.2.2.1 hin ty hty hnm C.2.2.2.2.1 C.2.2.2.2.2.2.2.2.1 P Dj S (o - 1) (wl_o ho) hc k0 hk (C.2.2.2.2.2.1 _ hl) (fun _ z => by rw [hr] at z; exact z) hfin (hpd (by decide)) hx hx2 (by simp [flds, hn, hk]) hd (fun H1 locs1 P1 D1 S1 => ?_)
  have q9 := wl_putI (cA := cA) (ad := ad) (h := h) (x := x) ho (by rw [hn]; exact hk) (by rw [e0]; decide)
  have P1 : va_P D vwCl (wl cA ad N (uI h o k0 x)) H1 := by rw [← q9]; exact P1
  have D1 : va_D A (wl cA ad N (uI h o k0 x)) := by rw [← q9]; exact D1
  exact k p l e s m args below meth c D cA ad0 ad A H1 locs1 lsA C G sw P1 D1 S1 L
theorem e_putC {idx ci k0 o : Nat} {x : Int32} (hf : FL μ.1.cls idx ci k0 4) (hd : decode μ.2.1 pc = .ok (.putfield idx, 3)) (ho : isO N o ci) (hfin : FN ci k0 false) (hx : narrow .char (.int x) = .int x) (hx2 : fits .char (.int x) = true) {h2 : HP} (hq : (uI h o k0 x) = h2) {pc2 : Nat} (hp2 : pc + 3 = pc2) (k : Ev d μ N0 v N' h' pc2 N ls (st) h2) : Ev d μ N0 v N' h' (pc) N ls (.int x :: .ref o :: st) h := by
  subst hp2
  subst hq
  obtain ⟨Cn, T, n, ty, hc, hin, hty, hnm, hn, hk, e0, hl, hr, hpd⟩ := hf
  obtain ⟨C9, T9, n9, hc9, hfin⟩ := hfin
  cases hc.symm.trans hc9
  refine fun p l e s m args below meth c D cA ad0 ad A H locs lsA C G sw P Dj S L => va_put (ref := Cn) C.1 C.2.1 C.2.2.2.2.2.1 hin ty hty hnm C.2.2.2.2.1 C.2.2.2.2.2.2.2.2.1 P Dj S (o - 1) (wl_o ho) hc k0 hk (C.2.2.2.2.2.1 _ hl) (fun _ z => by rw [hr] at z; exact z) hfin (hpd (by decide)) hx hx2 (by simp [flds, hn, hk]) hd (fun H1 locs1 P1 D1 S1 => ?_)
  have q9 := wl_putI (cA := cA) (ad := ad) (h := h) (x := x) ho (by rw [hn]; exact hk) (by rw [e0]; decide)
  have P1 : va_P D vwCl (wl cA ad N (uI h o k0 x)) H1 := by rw [← q9]; exact P1
  have D1 : va_D A (wl cA ad N (uI h o k0 x)) := by rw [← q9]; exact D1
  exact k p l e s m args below meth c D cA ad0 ad A H1 locs1 lsA C G sw P1 D1 S1 L
theorem e_iald {o n : Nat} {i : Int32} (hd : decode μ.2.1 pc = .ok (.iaload, 1)) (ho : isA N o 1 n) (hi : vp_in i n) {pc2 : Nat} (hp2 : pc + 1 = pc2) (k : Ev d μ N0 v N' h' pc2 N ls (.int (h.1 o i.toNatClampNeg) :: st) h) : Ev d μ N0 v N' h' (pc) N ls (.int i :: .ref o :: st) h := by
  subst hp2
  exact fun p l e s m args below meth c D cA ad0 ad A H locs lsA C G sw P Dj S L => va_iald C.1 C.2.1 C.2.2.2.2.2.2.2.2.1 P (o - 1) 0 (wl_ai ho (Or.inl rfl)) rfl hi hd (k p l e s m args below meth c D cA ad0 ad A H locs lsA C G sw P Dj S L)
theorem e_lald {o n : Nat} {i : Int32} (hd : decode μ.2.1 pc = .ok (.laload, 1)) (ho : isA N o 2 n) (hi : vp_in i n) {pc2 : Nat} (hp2 : pc + 1 = pc2) (k : Ev d μ N0 v N' h' pc2 N ls (.long (h.2.1 o i.toNatClampNeg) :: st) h) : Ev d μ N0 v N' h' (pc) N ls (.int i :: .ref o :: st) h := by
  subst hp2
  exact fun p l e s m args below meth c D cA ad0 ad A H locs lsA C G sw P Dj S L => va_lald C.1 C.2.1 C.2.2.2.2.2.2.2.2.1 P (o - 1) 1 (wl_al ho) rfl hi hd (k p l e s m args below meth c D cA ad0 ad A H locs lsA C G sw P Dj S L)
theorem e_cald {o n : Nat} {i : Int32} (hd : decode μ.2.1 pc = .ok (.caload, 1)) (ho : isA N o 3 n) (hi : vp_in i n) {pc2 : Nat} (hp2 : pc + 1 = pc2) (k : Ev d μ N0 v N' h' pc2 N ls (.int (h.1 o i.toNatClampNeg) :: st) h) : Ev d μ N0 v N' h' (pc) N ls (.int i :: .ref o :: st) h := by
  subst hp2
  exact fun p l e s m args below meth c D cA ad0 ad A H locs lsA C G sw P Dj S L => va_cald C.1 C.2.1 C.2.2.2.2.2.2.2.2.1 P (o - 1) 2 (wl_ai ho (Or.inr (Or.inl rfl))) rfl hi hd (k p l e s m args below meth c D cA ad0 ad A H locs lsA C G sw P Dj S L)
theorem e_zald {o n : Nat} {i : Int32} (hd : decode μ.2.1 pc = .ok (.baload, 1)) (ho : isA N o 4 n) (hi : vp_in i n) {pc2 : Nat} (hp2 : pc + 1 = pc2) (k : Ev d μ N0 v N' h' pc2 N ls (.int (h.1 o i.toNatClampNeg) :: st) h) : Ev d μ N0 v N' h' (pc) N ls (.int i :: .ref o :: st) h := by
  subst hp2
  exact fun p l e s m args below meth c D cA ad0 ad A H locs lsA C G sw P Dj S L => va_zald C.1 C.2.1 C.2.2.2.2.2.2.2.2.1 P (o - 1) 3 (wl_ai ho (Or.inr (Or.inr rfl))) rfl hi hd (k p l e s m args below meth c D cA ad0 ad A H locs lsA C G sw P Dj S L)
theorem e_iast {o n : Nat} {i : Int32} {x : Int32} (hd : decode μ.2.1 pc = .ok (.iastore, 1)) (ho : isA N o 1 n) (hi : vp_in i n) {h2 : HP} (hq : (uI h o i.toNatClampNeg x) = h2) {pc2 : Nat} (hp2 : pc + 1 = pc2) (k : Ev d μ N0 v N' h' pc2 N ls (st) h2) : Ev d μ N0 v N' h' (pc) N ls (.int x :: .int i :: .ref o :: st) h := by
  subst hp2
  subst hq
  refine fun p l e s m args below meth c D cA ad0 ad A H locs lsA C G sw P Dj S L => va_iast C.1 C.2.1 C.2.2.2.2.2.2.2.2.1 P Dj S (o - 1) 0 (wl_ai ho (Or.inl rfl)) rfl hi hd (fun H1 locs1 P1 D1 S1 => ?_)
  have q9 := wl_sai (cA := cA) (ad := ad) (h := h) (j := i.toNatClampNeg) (x := x) ho (Or.inl rfl)
  have P1 : va_P D vwCl (wl cA ad N (uI h o i.toNatClampNeg x)) H1 := by rw [← q9]; exact P1
  have D1 : va_D A (wl cA ad N (uI h o i.toNatClampNeg x)) := by rw [← q9]; exact D1
  exact k p l e s m args below meth c D cA ad0 ad A H1 locs1 lsA C G sw P1 D1 S1 L
theorem e_cast {o n : Nat} {i : Int32} {x : Int32} (hd : decode μ.2.1 pc = .ok (.castore, 1)) (ho : isA N o 3 n) (hi : vp_in i n) {h2 : HP} (hq : (uI h o i.toNatClampNeg (vp_nar .char x)) = h2) {pc2 : Nat} (hp2 : pc + 1 = pc2) (k : Ev d μ N0 v N' h' pc2 N ls (st) h2) : Ev d μ N0 v N' h' (pc) N ls (.int x :: .int i :: .ref o :: st) h := by
  subst hp2
  subst hq
  refine fun p l e s m args below meth c D cA ad0 ad A H locs lsA C G sw P Dj S L => va_cast C.1 C.2.1 C.2.2.2.2.2.2.2.2.1 P Dj S (o - 1) 2 (wl_ai ho (Or.inr (Or.inl rfl))) rfl hi hd (fun H1 locs1 P1 D1 S1 => ?_)
  have q9 := wl_sai (cA := cA) (ad := ad) (h := h) (j := i.toNatClampNeg) (x := vp_nar .char x) ho (Or.inr (Or.inl rfl))
  have P1 : va_P D vwCl (wl cA ad N (uI h o i.toNatClampNeg (vp_nar .char x))) H1 := by rw [← q9]; exact P1
  have D1 : va_D A (wl cA ad N (uI h o i.toNatClampNeg (vp_nar .char x))) := by rw [← q9]; exact D1
  exact k p l e s m args below meth c D cA ad0 ad A H1 locs1 lsA C G sw P1 D1 S1 L
theorem e_zast {o n : Nat} {i : Int32} {x : Int32} (hd : decode μ.2.1 pc = .ok (.bastore, 1)) (ho : isA N o 4 n) (hi : vp_in i n) {h2 : HP} (hq : (uI h o i.toNatClampNeg (vp_nar .boolean x)) = h2) {pc2 : Nat} (hp2 : pc + 1 = pc2) (k : Ev d μ N0 v N' h' pc2 N ls (st) h2) : Ev d μ N0 v N' h' (pc) N ls (.int x :: .int i :: .ref o :: st) h := by
  subst hp2
  subst hq
  refine fun p l e s m args below meth c D cA ad0 ad A H locs lsA C G sw P Dj S L => va_zast C.1 C.2.1 C.2.2.2.2.2.2.2.2.1 P Dj S (o - 1) 3 (wl_ai ho (Or.inr (Or.inr rfl))) rfl hi hd (fun H1 locs1 P1 D1 S1 => ?_)
  have q9 := wl_sai (cA := cA) (ad := ad) (h := h) (j := i.toNatClampNeg) (x := vp_nar .boolean x) ho (Or.inr (Or.inr rfl))
  have P1 : va_P D vwCl (wl cA ad N (uI h o i.toNatClampNeg (vp_nar .boolean x))) H1 := by rw [← q9]; exact P1
  have D1 : va_D A (wl cA ad N (uI h o i.toNatClampNeg (vp_nar .boolean x))) := by rw [← q9]; exact D1
  exact k p l e s m args below meth c D cA ad0 ad A H1 locs1 lsA C G sw P1 D1 S1 L
theorem e_last {o n : Nat} {i : Int32} {x : Int64} (hd : decode μ.2.1 pc = .ok (.lastore, 1)) (ho : isA N o 2 n) (hi : vp_in i n) {h2 : HP} (hq : (uL h o i.toNatClampNeg x) = h2) {pc2 : Nat} (hp2 : pc + 1 = pc2) (k : Ev d μ N0 v N' h' pc2 N ls (st) h2) : Ev d μ N0 v N' h' (pc) N ls (.long x :: .int i :: .ref o :: st) h := by
  subst hp2
  subst hq
  refine fun p l e s m args below meth c D cA ad0 ad A H locs lsA C G sw P Dj S L => va_last C.1 C.2.1 C.2.2.2.2.2.2.2.2.1 P Dj S (o - 1) 1 (wl_al ho) rfl hi hd (fun H1 locs1 P1 D1 S1 => ?_)
  have q9 := wl_sal (cA := cA) (ad := ad) (h := h) (j := i.toNatClampNeg) (x := x) ho
  have P1 : va_P D vwCl (wl cA ad N (uL h o i.toNatClampNeg x)) H1 := by rw [← q9]; exact P1
  have D1 : va_D A (wl cA ad N (uL h o i.toNatClampNeg x)) := by rw [← q9]; exact D1
  exact k p l e s m args below meth c D cA ad0 ad A H1 locs1 lsA C G sw P1 D1 S1 L
theorem e_aald {o n t r : Nat} {i : Int32} (hd : decode μ.2.1 pc = .ok (.aaload, 1)) (ho : isA N o t n) (h5 : t = 5 ∨ t = 6 ∨ t = 7) (hi : vp_in i n) (hr0 : h.2.2 o i.toNatClampNeg = r) (hr1 : r ≠ 0) {pc2 : Nat} (hp2 : pc + 1 = pc2) (k : Ev d μ N0 v N' h' pc2 N ls (.ref r :: st) h) : Ev d μ N0 v N' h' (pc) N ls (.int i :: .ref o :: st) h := by
  subst hp2
  obtain ⟨C9, ht9⟩ := tys_obj h5
  exact fun p l e s m args below meth c D cA ad0 ad A H locs lsA C G sw P Dj S L => va_aldq (f := fun i => if h.2.2 o i = 0 then none else some (ad (h.2.2 o i))) C.1 C.2.1 C.2.2.2.2.2.2.2.2.1 P (o - 1) (t - 1) (wl_aq ho h5) (ht9 cA) hi hd (by rw [hr0, if_neg hr1]; exact k p l e s m args below meth c D cA ad0 ad A H locs lsA C G sw P Dj S L)
theorem e_alen {o n t : Nat} {x : Int32} (hd : decode μ.2.1 pc = .ok (.arraylength, 1)) (ho : isA N o t n) (ht : 1 ≤ t ∧ t ≤ 7) (hx : Int32.ofNat n = x) {pc2 : Nat} (hp2 : pc + 1 = pc2) (k : Ev d μ N0 v N' h' pc2 N ls (.int x :: st) h) : Ev d μ N0 v N' h' (pc) N ls (.ref o :: st) h := by
  subst hp2
  obtain ⟨ty9, ht9⟩ := tys_any ht
  refine fun p l e s m args below meth c D cA ad0 ad A H locs lsA C G sw P Dj S L => ?_
  obtain ⟨z, hz1, hz2⟩ := wl_any (cA := cA) (ad := ad) (h := h) ho ht
  exact va_alen C.1 C.2.1 C.2.2.2.2.2.2.2.2.1 P (o - 1) (t - 1) hz2 (ht9 cA) (by rw [hz1]; exact hx) hd (k p l e s m args below meth c D cA ad0 ad A H locs lsA C G sw P Dj S L)
theorem e_acopy {idx o0 n0 o1 n1 : Nat} {sp dp n : Int32} (hd : decode μ.2.1 pc = .ok (.invokestatic idx, 3)) (hl : Cond.methodLink μ.1.cls idx arraycopyName ∈ TG) (ho0 : isA N o0 1 n0) (ho1 : isA N o1 1 n1) (z1 : ¬ sp < 0) (z2 : ¬ dp < 0) (z3 : ¬ n < 0) (z4 : sp.toNatClampNeg + n.toNatClampNeg ≤ n0) (z5 : dp.toNatClampNeg + n.toNatClampNeg ≤ n1) (hdp : 1 ≤ d) (hN : NN N0 N N') (hst : (st.map fun v => v.category).sum ≤ 8) {h2 : HP} (hq : uA h o1 (va_cpy (h.1 o0) (h.1 o1) sp.toNatClampNeg dp.toNatClampNeg n.toNatClampNeg) = h2) {pc2 : Nat} (hp2 : pc + 3 = pc2) (k : Ev d μ N0 v N' h' pc2 N ls (st) h2) : Ev d μ N0 v N' h' (pc) N ls (.int n :: .int dp :: .ref o1 :: .int sp :: .ref o0 :: st) h := by
  subst hp2
  subst hq
  refine fun p l e s m args below meth c D cA ad0 ad A H locs lsA C G sw P Dj S L => va_copyi C.1 C.2.1 (C.2.2.2.1.trans L.1.symm) C.2.2.2.2.1 (C.2.2.2.2.2.1 _ hl) (C.2.2.2.2.2.1 _ tgc_1) (C.2.2.2.2.2.1 _ tgc_2) (C.2.2.2.2.2.1 _ tgc_3) C.2.2.2.2.2.2.2.2.1 P Dj S (o0 - 1) (o1 - 1) 0 0 (wl_ai ho0 (Or.inl rfl)) (wl_ai ho1 (Or.inl rfl)) rfl rfl rfl z1 z2 z3 z4 z5 (fun _ _ => rfl) hdp (rm_ac hdp hst) hd (fun H1 locs1 P1 D1 S1 => ?_)
  have q9 := wl_sac (cA := cA) (ad := ad) (h := h) (f := va_cpy (h.1 o0) (h.1 o1) sp.toNatClampNeg dp.toNatClampNeg n.toNatClampNeg) ho1
  have P1 : va_P D vwCl (wl cA ad N (uA h o1 (va_cpy (h.1 o0) (h.1 o1) sp.toNatClampNeg dp.toNatClampNeg n.toNatClampNeg))) H1 := by rw [← q9]; exact P1
  have D1 : va_D A (wl cA ad N (uA h o1 (va_cpy (h.1 o0) (h.1 o1) sp.toNatClampNeg dp.toNatClampNeg n.toNatClampNeg))) := by rw [← q9]; exact D1
  exact k p l e s m args below meth c D cA ad0 ad A H1 locs1 lsA C G sw P1 D1 S1 L
theorem ev_sub {ls' : List (Nat × Value)} (ks : List Nat) (hl : lv_pick ls ks = ls') (k : Ev d μ N0 v N' h' (pc) N ls' (st) h) : Ev d μ N0 v N' h' (pc) N ls (st) h := fun p l e s m args below meth c D cA ad0 ad A H locs lsA C G sw P Dj S L => k p l e s m args below meth c D cA ad0 ad A H locs lsA C G sw P Dj S (lv_sub L ks (lm_pick hl))
theorem e_iret {x : Int32} (hr : μ.2.2.2 = some .int) (hd : decode μ.2.1 pc = .ok (.ireturn, 1)) : Ev d μ N0 (some (.int x)) N h pc N ls [.int x] h := fun p l e s m args below meth c D cA ad0 ad A H locs lsA C G sw P Dj S L => W.iret C.1 C.2.1 (C.2.2.1.trans hr) (fun t ht hW => ⟨⟨ad, G, rfl, by rw [ht]; exact P, va_K.moved hW.alike C.2.2.2.2.2.2.2.2.1, Dj⟩, S.F ht⟩) S.2.2 hd C.2.2.2.2.2.2.2.1
theorem e_lret {x : Int64} (hr : μ.2.2.2 = some .long) (hd : decode μ.2.1 pc = .ok (.lreturn, 1)) : Ev d μ N0 (some (.long x)) N h pc N ls [.long x] h := fun p l e s m args below meth c D cA ad0 ad A H locs lsA C G sw P Dj S L => W.lret C.1 C.2.1 (C.2.2.1.trans hr) (fun t ht hW => ⟨⟨ad, G, rfl, by rw [ht]; exact P, va_K.moved hW.alike C.2.2.2.2.2.2.2.2.1, Dj⟩, S.F ht⟩) S.2.2 hd C.2.2.2.2.2.2.2.1
theorem e_vret  (hr : μ.2.2.2 = none) (hd : decode μ.2.1 pc = .ok (.return_, 1)) : Ev d μ N0 (none) N h pc N ls [] h := fun p l e s m args below meth c D cA ad0 ad A H locs lsA C G sw P Dj S L => W.vret C.1 C.2.1 (C.2.2.1.trans hr) (fun t ht hW => ⟨⟨ad, G, rfl, by rw [ht]; exact P, va_K.moved hW.alike C.2.2.2.2.2.2.2.2.1, Dj⟩, S.F ht⟩) S.2.2 hd C.2.2.2.2.2.2.2.1
theorem e_zret {x : Int32} (hz : narrow .boolean (.int x) = .int x) (hr : μ.2.2.2 = some .boolean) (hd : decode μ.2.1 pc = .ok (.ireturn, 1)) : Ev d μ N0 (some (.int x)) N h pc N ls [.int x] h := fun p l e s m args below meth c D cA ad0 ad A H locs lsA C G sw P Dj S L => W.zret C.1 C.2.1 (C.2.2.1.trans hr) hz (fun t ht hW => ⟨⟨ad, G, rfl, by rw [ht]; exact P, va_K.moved hW.alike C.2.2.2.2.2.2.2.2.1, Dj⟩, S.F ht⟩) S.2.2 hd C.2.2.2.2.2.2.2.1
theorem e_mmax {x y : Int32} {idx : Nat} (hd : decode μ.2.1 pc = .ok (.invokestatic idx, 3)) (hl : Cond.methodLink μ.1.cls idx Lib.Math.max.name ∈ TG) (hdp : 1 ≤ d) (hN : NN N0 N N') (hst : (st.map fun v => v.category).sum ≤ 8) {pc2 : Nat} (hp2 : pc + 3 = pc2) (k : Ev d μ N0 v N' h' pc2 N ls (.int (if x < y then y else x) :: st) h) : Ev d μ N0 v N' h' (pc) N ls (.int y :: .int x :: st) h := by
  subst hp2
  exact fun p l e s m args below meth c D cA ad0 ad A H locs lsA C G sw P Dj S L => va_mmax C.1 C.2.1 (C.2.2.2.1.trans L.1.symm) C.2.2.2.2.1 (C.2.2.2.2.2.1 _ hl) (C.2.2.2.2.2.1 _ tgm_max1) (C.2.2.2.2.2.1 _ tgm_ini) (C.2.2.2.2.2.1 _ tgm_max2) hdp (rm_lo hdp hst) (hN.1) (hN.2) hd (k p l e s m args below meth c D cA ad0 ad A H locs lsA C G sw P Dj S L)
theorem e_mmin {x y : Int32} {idx : Nat} (hd : decode μ.2.1 pc = .ok (.invokestatic idx, 3)) (hl : Cond.methodLink μ.1.cls idx Lib.Math.min.name ∈ TG) (hdp : 1 ≤ d) (hN : NN N0 N N') (hst : (st.map fun v => v.category).sum ≤ 8) {pc2 : Nat} (hp2 : pc + 3 = pc2) (k : Ev d μ N0 v N' h' pc2 N ls (.int (if y < x then y else x) :: st) h) : Ev d μ N0 v N' h' (pc) N ls (.int y :: .int x :: st) h := by
  subst hp2
  exact fun p l e s m args below meth c D cA ad0 ad A H locs lsA C G sw P Dj S L => va_mmin C.1 C.2.1 (C.2.2.2.1.trans L.1.symm) C.2.2.2.2.1 (C.2.2.2.2.2.1 _ hl) (C.2.2.2.2.2.1 _ tgm_min1) (C.2.2.2.2.2.1 _ tgm_ini) (C.2.2.2.2.2.1 _ tgm_min2) hdp (rm_lo hdp hst) (hN.1) (hN.2) hd (k p l e s m args below meth c D cA ad0 ad A H locs lsA C G sw P Dj S L)
theorem e_aload_nQ {k0 : Fin 4} {i w : Nat} (hd : decode μ.2.1 pc = .ok (.aload_n k0, 1)) (n : Nat) (hn : ls[n]? = some (i, rva w)) (hi : (k0 : Nat) = i) {pc2 : Nat} (hp2 : pc + 1 = pc2) (k : Ev d μ N0 v N' h' pc2 N ls (rva w :: st) h) : Ev d μ N0 v N' h' (pc) N ls (st) h := by
  subst hp2
  by_cases hw : w = 0
  · subst hw
    exact e_aload_nN hd n hn hi rfl k
  · rw [rva_s hw] at hn k
    exact e_aload_n hd n hn hi rfl k
theorem e_astore_nQ {k0 : Fin 4} {i w : Nat} (hd : decode μ.2.1 pc = .ok (.astore_n k0, 1)) (hi : (k0 : Nat) = i) (hn : i < μ.2.2.1) {ls' : List (Nat × Value)} (ks : List Nat) (hl : lv_pick ((i, rva w) :: ls.filter (fun q => !(q.1 == i) && !(q.1 + 1 == i && q.2.category == 2))) ks = ls') {pc2 : Nat} (hp2 : pc + 1 = pc2) (k : Ev d μ N0 v N' h' pc2 N ls' (st) h) : Ev d μ N0 v N' h' (pc) N ls (rva w :: st) h := by
  subst hp2
  by_cases hw : w = 0
  · subst hw
    exact e_astore_nN hd hi hn ks hl rfl k
  · rw [rva_s hw] at hl ⊢
    exact e_astore_n hd hi hn rfl ks hl rfl k
theorem e_aloadQ {i w : Nat} (hd : decode μ.2.1 pc = .ok (.aload i, 2)) (n : Nat) (hn : ls[n]? = some (i, rva w)) {pc2 : Nat} (hp2 : pc + 2 = pc2) (k : Ev d μ N0 v N' h' pc2 N ls (rva w :: st) h) : Ev d μ N0 v N' h' (pc) N ls (st) h := by
  subst hp2
  by_cases hw : w = 0
  · subst hw
    exact e_aloadN hd n hn rfl k
  · rw [rva_s hw] at hn k
    exact e_aload hd n hn rfl k
theorem e_astoreQ {i w : Nat} (hd : decode μ.2.1 pc = .ok (.astore i, 2)) (hn : i < μ.2.2.1) {ls' : List (Nat × Value)} (ks : List Nat) (hl : lv_pick ((i, rva w) :: ls.filter (fun q => !(q.1 == i) && !(q.1 + 1 == i && q.2.category == 2))) ks = ls') {pc2 : Nat} (hp2 : pc + 2 = pc2) (k : Ev d μ N0 v N' h' pc2 N ls' (st) h) : Ev d μ N0 v N' h' (pc) N ls (rva w :: st) h := by
  subst hp2
  by_cases hw : w = 0
  · subst hw
    exact e_astoreN hd hn ks hl rfl k
  · rw [rva_s hw] at hl ⊢
    exact e_astore hd hn rfl ks hl rfl k
theorem e_getQ {idx ci k0 o w : Nat} (hf : FL μ.1.cls idx ci k0 2) (hd : decode μ.2.1 pc = .ok (.getfield idx, 3)) (ho : isO N o ci) (hr0 : h.2.2 o k0 = w) {pc2 : Nat} (hp2 : pc + 3 = pc2) (k : Ev d μ N0 v N' h' pc2 N ls (rva w :: st) h) : Ev d μ N0 v N' h' (pc) N ls (.ref o :: st) h := by
  subst hp2
  by_cases hw : w = 0
  · subst hw
    exact e_getRN hf hd ho hr0 rfl k
  · rw [rva_s hw] at k
    exact e_getR hf hd ho hr0 hw rfl k
theorem e_putQ {idx ci k0 o w : Nat} (hf : FL μ.1.cls idx ci k0 2) (hd : decode μ.2.1 pc = .ok (.putfield idx, 3)) (ho : isO N o ci) (hfin : FN ci k0 false) (hfr : FR ci k0) {h2 : HP} (hq : uR h o k0 w = h2) {pc2 : Nat} (hp2 : pc + 3 = pc2) (k : Ev d μ N0 v N' h' pc2 N ls (st) h2) : Ev d μ N0 v N' h' (pc) N ls (rva w :: .ref o :: st) h := by
  subst hp2
  by_cases hw : w = 0
  · subst hw
    exact e_putRN hf hd ho hfin hfr hq rfl k
  · rw [rva_s hw]
    exact e_putR hf hd ho hfin hfr hw hq rfl k
theorem e_ifnonnullQ {w : Nat} {off : Int} {tgt : Nat} (hd : decode μ.2.1 pc = .ok (.ifnonnull off, 3)) (ht : (pc : Int) + off = (tgt : Int)) {pc2 : Nat} (hp2 : pc + 3 = pc2) (kt : ¬ w = 0 → Ev d μ N0 v N' h' (tgt) N ls (st) h) (kf : w = 0 → Ev d μ N0 v N' h' pc2 N ls (st) h) : Ev d μ N0 v N' h' (pc) N ls (rva w :: st) h := by
  subst hp2
  by_cases hw : w = 0
  · subst hw
    exact e_ifnonnullN hd rfl (kf rfl)
  · rw [rva_s hw]
    exact e_ifnonnull hd ht (kt hw)
theorem e_ifnullQ {w : Nat} {off : Int} {tgt : Nat} (hd : decode μ.2.1 pc = .ok (.ifnull off, 3)) (ht : (pc : Int) + off = (tgt : Int)) {pc2 : Nat} (hp2 : pc + 3 = pc2) (kt : w = 0 → Ev d μ N0 v N' h' (tgt) N ls (st) h) (kf : ¬ w = 0 → Ev d μ N0 v N' h' pc2 N ls (st) h) : Ev d μ N0 v N' h' (pc) N ls (rva w :: st) h := by
  subst hp2
  by_cases hw : w = 0
  · subst hw
    exact e_ifnullN hd ht (kt rfl)
  · rw [rva_s hw]
    exact e_ifnull hd rfl (kf hw)
theorem e_acmp_eq {w1 w2 : Nat} {off : Int} {tgt : Nat} (hd : decode μ.2.1 pc = .ok (.if_acmp .eq off, 3)) (ht : (pc : Int) + off = (tgt : Int)) (h1 : wob w1 = true) (h2 : wob w2 = true) {pc2 : Nat} (hp2 : pc + 3 = pc2) (kt : w1 = w2 → Ev d μ N0 v N' h' (tgt) N ls (st) h) (kf : ¬ w1 = w2 → Ev d μ N0 v N' h' pc2 N ls (st) h) : Ev d μ N0 v N' h' (pc) N ls (rva w2 :: rva w1 :: st) h := by
  subst hp2
  intro p l e s m args below meth c D cA ad0 ad A H locs lsA C G sw P Dj S L
  have q := SW.inj (adw := adW ad) sw.1
  simp only [List.map_cons]
  rw [cv_rva, cv_rva]
  exact lv_acmp_eq C.1 C.2.1 hd ht (fun z => kt (by first | exact (rvo_inj q h1 h2).mp z | exact fun y => z ((rvo_inj q h1 h2).mpr y)) p l e s m args below meth c D cA ad0 ad A H locs lsA C G sw P Dj S L) (fun z => kf (by first | exact (rvo_inj q h1 h2).mp z | exact fun y => z ((rvo_inj q h1 h2).mpr y)) p l e s m args below meth c D cA ad0 ad A H locs lsA C G sw P Dj S L)
theorem e_acmp_ne {w1 w2 : Nat} {off : Int} {tgt : Nat} (hd : decode μ.2.1 pc = .ok (.if_acmp .ne off, 3)) (ht : (pc : Int) + off = (tgt : Int)) (h1 : wob w1 = true) (h2 : wob w2 = true) {pc2 : Nat} (hp2 : pc + 3 = pc2) (kt : ¬ w1 = w2 → Ev d μ N0 v N' h' (tgt) N ls (st) h) (kf : w1 = w2 → Ev d μ N0 v N' h' pc2 N ls (st) h) : Ev d μ N0 v N' h' (pc) N ls (rva w2 :: rva w1 :: st) h := by
  subst hp2
  intro p l e s m args below meth c D cA ad0 ad A H locs lsA C G sw P Dj S L
  have q := SW.inj (adw := adW ad) sw.1
  simp only [List.map_cons]
  rw [cv_rva, cv_rva]
  exact lv_acmp_ne C.1 C.2.1 hd ht (fun z => kt (by first | exact (rvo_inj q h1 h2).mp z | exact fun y => z ((rvo_inj q h1 h2).mpr y)) p l e s m args below meth c D cA ad0 ad A H locs lsA C G sw P Dj S L) (fun z => kf (by first | exact (rvo_inj q h1 h2).mp z | exact fun y => z ((rvo_inj q h1 h2).mpr y)) p l e s m args below meth c D cA ad0 ad A H locs lsA C G sw P Dj S L)
end EV
