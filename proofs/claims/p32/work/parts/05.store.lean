/-! THE STORE: a flat picture of all cells that the law's run made: kind and length of each address, fields by field number (100 * class + place), arrays. -/
abbrev sS : Type := (Nat → Nat) × (Nat → Nat) × (Nat → Nat → Int32) × (Nat → Nat → Option Nat) × (Nat → Nat → Int32) × (Nat → Nat → Int64) × (Nat → Nat → Option Nat)
def sK (S : sS) : Nat → Nat := S.1
def sL (S : sS) : Nat → Nat := S.2.1
def sI (S : sS) : Nat → Nat → Int32 := S.2.2.1
def sR (S : sS) : Nat → Nat → Option Nat := S.2.2.2.1
def sA (S : sS) : Nat → Nat → Int32 := S.2.2.2.2.1
def sJ (S : sS) : Nat → Nat → Int64 := S.2.2.2.2.2.1
def sQ (S : sS) : Nat → Nat → Option Nat := S.2.2.2.2.2.2
def up1 {α : Type} (f : Nat → α) (a : Nat) (v : α) : Nat → α := fun x => if x = a then v else f x
def up2 {α : Type} (f : Nat → Nat → α) (a b : Nat) (v : α) : Nat → Nat → α := fun x y => if x = a ∧ y = b then v else f x y
def upR {α : Type} (f : Nat → Nat → α) (a : Nat) (v : Nat → α) : Nat → Nat → α := fun x => if x = a then v else f x
theorem up2_s {α : Type} {f : Nat → Nat → α} {a b : Nat} {v : α} : up2 f a b v a b = v := if_pos ⟨rfl, rfl⟩
theorem up2_n1 {α : Type} {f : Nat → Nat → α} {a b x y : Nat} {v : α} (h : x ≠ a) : up2 f a b v x y = f x y := if_neg fun q => h q.1
theorem up2_n2 {α : Type} {f : Nat → Nat → α} {a b x y : Nat} {v : α} (h : y ≠ b) : up2 f a b v x y = f x y := if_neg fun q => h q.2
theorem up1_s {α : Type} {f : Nat → α} {a : Nat} {v : α} : up1 f a v a = v := if_pos rfl
theorem up1_n {α : Type} {f : Nat → α} {a x : Nat} {v : α} (h : x ≠ a) : up1 f a v x = f x := if_neg h
def pI (S : sS) (f a : Nat) (v : Int32) : sS := (sK S, sL S, up2 (sI S) f a v, sR S, sA S, sJ S, sQ S)
def pR (S : sS) (f a : Nat) (v : Option Nat) : sS := (sK S, sL S, sI S, up2 (sR S) f a v, sA S, sJ S, sQ S)
def pA (S : sS) (a j : Nat) (v : Int32) : sS := (sK S, sL S, sI S, sR S, up2 (sA S) a j v, sJ S, sQ S)
def pJ (S : sS) (a j : Nat) (v : Int64) : sS := (sK S, sL S, sI S, sR S, sA S, up2 (sJ S) a j v, sQ S)
def pQ (S : sS) (a j : Nat) (v : Option Nat) : sS := (sK S, sL S, sI S, sR S, sA S, sJ S, up2 (sQ S) a j v)
/-- a new object of kind k at a: all its fields at their defaults; a new array of kind k and length n -/
def nO (S : sS) (k a : Nat) : sS := (up1 (sK S) a k, sL S, (fun f x => if x = a then 0 else sI S f x), (fun f x => if x = a then none else sR S f x), sA S, sJ S, sQ S)
def nA (S : sS) (k n a : Nat) : sS := (up1 (sK S) a k, up1 (sL S) a n, sI S, sR S, upR (sA S) a (fun _ => 0), upR (sJ S) a (fun _ => 0), upR (sQ S) a (fun _ => none))
/-- which fields hold references -/
def fRef (f : Nat) : Bool := [6, 7, 8, 10, 11, 204, 205, 206, 304, 400, 401, 402, 403, 404, 405, 406, 500, 501, 502, 600, 601, 700, 800, 801, 802, 803, 902, 903, 904, 905, 906, 907, 908, 909, 910, 911, 912, 913, 914, 915, 916, 917, 918, 919, 921, 922, 923, 924, 925, 926, 928, 929, 930, 931, 932, 933, 934, 935, 936, 937, 939, 940, 941, 942, 944, 945, 946, 947, 948, 950, 951, 952, 953, 954, 955].contains f
def nF : Nat → Nat
  | 0 => 13 | 1 => 7 | 2 => 9 | 3 => 5 | 4 => 9 | 5 => 6 | 6 => 5 | 7 => 7 | 8 => 9 | 9 => 57 | _ => 0
def sV (S : sS) (f a : Nat) : Value := if fRef f = true then va_rf (sR S f a) else .int (sI S f a)
def sFs (S : sS) (c a : Nat) : List Value := (List.range (nF c)).map (fun k => sV S (100 * c + k) a)
/-- the layout of the classes, the classes of the arrays (1 int, 2 boolean, 3 long, 4 Child, 5 Home, 6 Stay, 7 int[]), the heap at the law's entry -/
abbrev gG : Type := va_G × (Nat → ClassId) × Heap
def wA (G : gG) (S : sS) (a : Nat) : Nat → va_E
  | 1 => .inl (G.2.1 1, sL S a, .inl (sA S a))
  | 2 => .inl (G.2.1 2, sL S a, .inl (sA S a))
  | 3 => .inl (G.2.1 3, sL S a, .inr (.inl (sJ S a)))
  | k => .inl (G.2.1 k, sL S a, .inr (.inr (.inr (.inr (sQ S a)))))
def wE (G : gG) (S : sS) (a : Nat) : va_E := if sK S a < 100 then .inr (sK S a - 1, sFs S (sK S a - 1) a) else wA G S a (sK S a % 10)
def wB (G : gG) : Nat := G.2.2.size
def wW (G : gG) (S : sS) (H : Heap) : Prop := wB G ≤ H.size ∧ (∀ q : Nat, q < wB G → H[q]? = G.2.2[q]?) ∧ ∀ a, sK S a ≠ 0 → wB G ≤ a ∧ va_at G.1 vwCl (a, wE G S a) H
def tyA : Nat → FieldType
  | 1 => .int | 2 => .int | 3 => .long | 4 => .object "FosterHouse$Child" | 5 => .object "FosterHouse$Home" | 6 => .object "FosterHouse$Stay" | _ => .array .int
def tysA (G : gG) : List (ClassId × FieldType) := [(G.2.1 0, .int), (G.2.1 1, .int), (G.2.1 2, .int), (G.2.1 3, .long), (G.2.1 4, .object "FosterHouse$Child"), (G.2.1 5, .object "FosterHouse$Home"), (G.2.1 6, .object "FosterHouse$Stay"), (G.2.1 7, .array .int)]
/-- the texts of the throws -/
def strT : List (String × Nat × String) := [("FosterHouse", 275, "an argument is out of range"), ("FosterHouse", 48, "there are as many children as can be"), ("FosterHouse", 66, "there are as many homes as can be"), ("FosterHouse", 281, "there is no such home"), ("FosterHouse", 279, "there is no such child"), ("FosterHouse", 103, "the child has as many reports as can be"), ("FosterHouse", 122, "there are as many orders as can be"), ("FosterHouse", 154, "the child is there or may not be placed there"), ("FosterHouse", 341, "there are as many stays as can be"), ("FosterHouse", 367, "more children are to be placed than can be at once"), ("FosterHouse", 169, "there would be more stays than can be"), ("FosterHouse", 190, "the child is in no home"), ("FosterHouse", 277, "there is no such worker"), ("FosterHouse", 213, "the day would be too late"), ("FosterHouse", 238, "nothing of that kind is told of a child"), ("FosterHouse", 283, "there is no such stay"), ("FosterHouse", 259, "nothing of that kind is told of a stay"), ("FosterHouse", 270, "there is no such place in a file"), ("FosterHouse", 273, "the file is sealed")]
def aOv (t : FieldType) (U : State) : Prop := (Cond.arrayOver t).before #[] U = true
def wN (G : gG) : Nat → Prop := fun q => wB G ≤ q
/-- the exceptions of the program, and what is said of their casts -/
def exT : List String := ["java/lang/IllegalArgumentException", "java/lang/IllegalStateException", "java/lang/IndexOutOfBoundsException"]
def dcT : List Cond := [.declares ⟨"java/lang/RuntimeException", "<init>", "(Ljava/lang/String;)V"⟩, .declares ⟨"java/lang/Exception", "<init>", "(Ljava/lang/String;)V"⟩, .declares ⟨"java/lang/Throwable", "<init>", "(Ljava/lang/String;)V"⟩]
def wX (U : State) : Prop := ((∀ E ∈ exT, va_Nw (.castable E E) U) ∧ ∀ w ∈ dcT, va_Nw w U) ∧ (∀ E ∈ exT, ∀ F ∈ exT, E ≠ F → va_Nc E F U) ∧ va_Nw (.methodLinkNest RX0 46 yX1_init "FosterHouse") U
theorem wX_mv {s U : State} (hW : s.WarmedH U.vm) (h : wX s) : wX U := by
  obtain ⟨⟨h1, h4⟩, h2, h3⟩ := h
  have h5 : ∀ w ∈ dcT, va_Nw w U := fun w hw => by
    have h6 := h4 w hw
    simp only [dcT, List.mem_cons, List.not_mem_nil, or_false] at hw
    rcases hw with rfl | rfl | rfl <;> exact va_Nw.warmD hW h6
  exact ⟨⟨fun E hE => va_Nw.warmC hW (h1 E hE), h5⟩, fun E hE F hF hn => (h2 E hE F hF hn).moved hW.alike, va_Nw.warmM hW h3⟩
/-- what is known of the machine everywhere in the run -/
def wK (G : gG) (U : State) : Prop := va_K G.1 vwCl (tysA G) U ∧ (aOv (.object "FosterHouse$Child") U ∧ aOv (.object "FosterHouse$Home") U ∧ aOv (.object "FosterHouse$Stay") U ∧ aOv (.array .int) U) ∧
  (vx_Zq Bundle.tN "UNASSIGNED_STACK" Bundle.steD (wN G) U G.2.2 ∧ vx_Zq Bundle.tN "SUPPRESSED_SENTINEL" Bundle.listD (wN G) U G.2.2) ∧
  ((∃ t : Nat, va_Z "FosterHouse$Plan" "RANKS" "[I" (.ref t) (wN G) U G.2.2 ∧ va_T .int t 5 (fun j => .int ([14641, 1331, 121, 11, 1].getD j 0)) (wN G) U G.2.2) ∧ ArrOfT U (G.2.1 8) .int) ∧
  (∀ q ∈ strT, ∃ a : Nat, vk_R q.1 q.2.1 q.2.2 a U) ∧ wX U
theorem aOv_mv {t : FieldType} {s U : State} (hW : s.WarmedH U.vm) (h : aOv t s) : aOv t U := by
  have h1 : (Cond.arrayOver t).before #[] (s.setVm U.vm) = true := by
    show (Cond.arrayOver t).before #[] (s.setVm U.vm) = true
    rw [Cond.arrayOver_setVmC hW.alike t]; exact h
  have h2 : (Cond.arrayOver t).before #[] U = (Cond.arrayOver t).before #[] (s.setVm U.vm) := by
    simp only [Cond.before, Cond.holds, Cond.value, State.setVm]
    rfl
  unfold aOv
  rw [h2]; exact h1
theorem wK_mv {G : gG} {s U : State} (hW : s.WarmedH U.vm) (h : wK G s) : wK G U := by
  obtain ⟨h1, ⟨h2, h3, h4, h5⟩, ⟨h6, h7⟩, ⟨⟨t, h8, h9⟩, h12⟩, h10, h11⟩ := h
  exact ⟨va_K.moved hW.alike h1, ⟨aOv_mv hW h2, aOv_mv hW h3, aOv_mv hW h4, aOv_mv hW h5⟩, ⟨h6.moved hW.alike, h7.moved hW.alike⟩, ⟨⟨t, h8.moved hW.alike, h9.moved hW.alike⟩, arrOfT_moved hW.alike h12⟩, fun q hq => (h10 q hq).imp fun a ha => vk_R.warm hW ha, wX_mv hW h11⟩

