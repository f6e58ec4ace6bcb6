/-! One token on, of both -/
def KD (L B : Nat) (s t : HS) : Prop :=
  (t.1 101 6 = 0 ∧ s.2.2.2.2.2.2 = 0 ∧ B = L) ∨ (t.1 101 6 = 1 ∧ ∃ l : List Nat, (∀ x ∈ l, 1 ≤ x ∧ x ≤ 26) ∧ l.length ≤ 8 ∧ s.2.1 36 5 = Int64.ofNat (kf 32 l) ∧ t.2.1 101 7 = Int64.ofNat (kf 27 l) ∧ s.2.2.2.2.2.2 = kwl (s.2.1 36 5) 0 37 0) ∨
  (t.1 101 6 = 2 ∧ s.2.2.2.2.2.2 = 0 ∧ ∃ N, N < 10000 ∧ s.1 36 6 = I N ∧ t.1 101 8 = I N) ∨ (t.1 101 6 = 3 ∧ s.2.2.2.2.2.2 = 0 ∧ B < L ∧ s.1 36 7 = t.1 102 B) ∨ (t.1 101 6 = 4 ∧ s.2.2.2.2.2.2 = 0)
def TK (L B P : Nat) (s t : HS) : Prop := CH L s t ∧ (B ≤ P ∧ P ≤ L ∧ (t.1 101 6 = 0 ∨ B < P)) ∧ s.1 36 9 = 0 ∧ (s.1 36 3 = I P ∧ t.1 101 4 = I P) ∧ (s.1 36 2 = I B ∧ t.1 101 5 = I B) ∧ s.1 36 4 = t.1 101 6 ∧ KD L B s t
def LT1 : List (Nat × Nat) := [(36, 3), (36, 4), (36, 5), (36, 6), (36, 7), (36, 8), (0, 6)]
def LT2 : List (Nat × Nat) := [(101, 5), (101, 6), (101, 7), (101, 8), (101, 9)]
section STEPT
variable {L : Nat} {s t : HS}
/-- what both set before they look at the first character -/
def sB (B : Nat) (s : HS) : HS := sL (sQ5 (sI s 36 2 (I B)) 0) 36 5 0
def tB (B : Nat) (t : HS) : HS := sI (sL (sI t 101 5 (I B)) 101 7 0) 101 8 0
theorem sB_e (B : Nat) (s : HS) : Fr LT1 s (sB B s) ∧ (sB B s).1 36 2 = I B ∧ (sB B s).1 36 3 = s.1 36 3 ∧ (sB B s).1 36 9 = s.1 36 9 ∧ (sB B s).2.2.2.2.2.2 = 0 ∧ (sB B s).2.1 36 5 = 0 := by
  refine ⟨?_, ?_, ?_, ?_, rfl, ?_⟩
  · exact (fr_sI (by decide)).trans ((show Fr LT1 (sI s 36 2 (I B)) (sQ5 (sI s 36 2 (I B)) 0) from ⟨fun _ _ _ => rfl, fun _ _ _ => rfl, fun _ => rfl, fun _ => rfl, fun _ => rfl, fun _ => rfl, fun q => absurd q (by decide)⟩).trans (fr_sL (by decide)))
  · show (sI s 36 2 (I B)).1 36 2 = _
    rw [sI_k]
  · show (sI s 36 2 (I B)).1 36 3 = _
    rw [sI_s, if_neg (by decide)]
  · show (sI s 36 2 (I B)).1 36 9 = _
    rw [sI_s, if_neg (by decide)]
  · show up2 s.2.1 36 5 (0 : Int64) 36 5 = 0
    unfold up2
    rw [if_pos rfl, if_pos rfl]
theorem tB_e (B : Nat) (t : HS) : Fr LT2 t (tB B t) ∧ (tB B t).1 101 5 = I B ∧ (tB B t).1 101 4 = t.1 101 4 ∧ (tB B t).1 101 8 = 0 ∧ (tB B t).2.1 101 7 = 0 := by
  refine ⟨(fr_sI (by decide)).trans ((fr_sL (by decide)).trans (fr_sI (by decide))), ?_, ?_, sI_k _ _ _ _, ?_⟩
  · unfold tB
    rw [sI_s, if_neg (by decide)]
    show (sI t 101 5 (I B)).1 101 5 = _
    rw [sI_k]
  · unfold tB
    rw [sI_s, if_neg (by decide)]
    show (sI t 101 5 (I B)).1 101 4 = _
    rw [sI_s, if_neg (by decide)]
  · show up2 t.2.1 101 7 (0 : Int64) 101 7 = 0
    unfold up2
    rw [if_pos rfl, if_pos rfl]
theorem CH.lt {s' t' : HS} (C : CH L s t) (f : Fr LT1 s s') (g : Fr LT2 t t') : CH L s' t' := C.fr f g (by decide) (by decide)
end STEPT
