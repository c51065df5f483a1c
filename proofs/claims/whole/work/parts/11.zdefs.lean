/-! ===== a small machine over the kit's rows: one store of cells at their own addresses; a judgement zW for a method's body, a contract zMet for a call ===== -/
abbrev zE : Type := (Nat × vp_A) ⊕ (Nat × List Value)
abbrev zS : Type := (Nat → zE) × Option Nat
abbrev zO : Type := Option Value ⊕ String
/-- the launch; where our cells begin; the classes; the array classes; the constants' addresses; the script -/
abbrev zX : Type := Launch × Nat × va_G × (Nat → ClassId) × (Nat → Nat) × (Nat × (Nat → Int32))
abbrev zB (X : zX) : Nat := X.2.1
abbrev zD (X : zX) : va_G := X.2.2.1
abbrev zT (X : zX) : Nat → ClassId := X.2.2.2.1
abbrev zQ (X : zX) : Nat → Nat := X.2.2.2.2.1
/-- a method: its class, code, locals, answer, whether it is a constructor, its table -/
abbrev zMd : Type := String × ByteArray × Nat × Option FieldType × Bool × List (Nat × Nat × Nat × Nat)
def zN : zE := .inr (99, [])
def zcl : List vw_C := [(RX2, TX2, 1), (RX3, TX3, 7), (RX4, TX4, 3), (RX5, TX5, 4), (RX6, TX6, 6), (RX7, TX7, 7), (RX8, TX8, 2), (RX9, TX9, 15), (RX10, TX10, 28)]
def ztys (X : zX) : List (ClassId × FieldType) := [(zT X 0, .int), (zT X 1, .char), (zT X 2, .boolean), (zT X 3, .long), (zT X 4, .double), (zT X 5, .object "BraidCourt$Docket"), (zT X 6, .object "BraidCourt$Word"), (zT X 7, .object "BraidCourt$Command")]
def zc (X : zX) (e : zE) : va_E := match e with
  | .inl q => .inl (zT X q.1, q.2)
  | .inr o => .inr o
def zA (X : zX) : Nat → Prop := fun q => zB X ≤ q
def zup (σ : zS) (a : Nat) (e : zE) : zS := (fun q => if q = a then e else σ.1 q, σ.2)
def zRep (X : zX) (σ : zS) (H : Heap) : Prop := zB X ≤ H.size ∧ (∀ a : Nat, zB X ≤ a → σ.1 a = zN ∨ va_at (zD X) zcl (a, zc X (σ.1 a)) H) ∧ (∀ a : Nat, a < zB X → σ.1 a = zN) ∧ ∀ h : Nat, σ.2 = some h → H.size = h
/-- the words that a call carries -/
def zBig : List Cond := lw_tbl.filter goodWord
theorem zin {w : Cond} (i : Nat) (h : lw_tbl[i]? = some w) (g : goodWord w = true) : w ∈ zBig := List.mem_filter.mpr ⟨List.mem_of_getElem? h, g⟩
theorem zup_at (σ : zS) (a : Nat) (e : zE) : (zup σ a e).1 a = e := by simp [zup]
theorem zup_ne (σ : zS) {a q : Nat} (e : zE) (h : q ≠ a) : (zup σ a e).1 q = σ.1 q := by simp [zup, h]
theorem zup_2 (σ : zS) (a : Nat) (e : zE) : (zup σ a e).2 = σ.2 := rfl
/-- a cell that is known lies in our part -/
theorem zRep.at {X : zX} {σ : zS} {H : Heap} (h : zRep X σ H) {a : Nat} {e : zE} (he : σ.1 a = e) (hn : e ≠ zN) : zB X ≤ a ∧ va_at (zD X) zcl (a, zc X e) H := by
  have h1 : zB X ≤ a := Nat.not_lt.mp fun q => hn (he ▸ h.2.2.1 a q)
  refine ⟨h1, ?_⟩
  rcases h.2.1 a h1 with h2 | h2
  · exact absurd (he ▸ h2) hn
  · rw [he] at h2; exact h2
/-- a cell is written, the others stay -/
theorem zRep.put {X : zX} {σ : zS} {H H1 : Heap} (h : zRep X σ H) {a : Nat} {e : zE} (ha : zB X ≤ a) (hz : H1.size = H.size) (he : va_at (zD X) zcl (a, zc X e) H1) (ho : ∀ q : Nat, q ≠ a → H1[q]? = H[q]?) : zRep X (zup σ a e) H1 := by
  refine ⟨by rw [hz]; exact h.1, fun q hq => ?_, fun q hq => ?_, fun k hk => by rw [hz]; exact h.2.2.2 k hk⟩
  · by_cases e1 : q = a
    · subst e1
      rw [zup_at]
      exact Or.inr he
    · rw [zup_ne σ e e1]
      rcases h.2.1 q hq with h2 | h2
      · exact Or.inl h2
      · exact Or.inr (h2.kept (ho q e1))
  · rw [zup_ne σ e (by omega)]
    exact h.2.2.1 q hq
/-- a cell is made -/
theorem zRep.new {X : zX} {σ : zS} {H H1 : Heap} (h : zRep X σ H) {a : Nat} {e : zE} (ha : H.size = a) (hz : H1.size = a + 1) (he : va_at (zD X) zcl (a, zc X e) H1) (ho : ∀ q : Nat, q < a → H1[q]? = H[q]?) : zRep X (zup (σ.1, some (a + 1)) a e) H1 := by
  have hB := h.1
  refine ⟨by omega, fun q hq => ?_, fun q hq => ?_, fun k hk => by rw [hz]; exact Option.some.inj hk⟩
  · by_cases e1 : q = a
    · subst e1
      rw [zup_at]
      exact Or.inr he
    · rw [zup_ne _ e e1]
      rcases h.2.1 q hq with h2 | h2
      · exact Or.inl h2
      · exact Or.inr (h2.kept (ho q (by have := h2.lt; dsimp only at this; omega)))
  · rw [zup_ne _ e (by omega)]
    exact h.2.2.1 q hq
/-- the heap has grown elsewhere -/
theorem zRep.grow {X : zX} {σ : zS} {H H1 : Heap} (h : zRep X σ H) (hz : H.size ≤ H1.size) (ho : ∀ q : Nat, q < H.size → H1[q]? = H[q]?) : zRep X (σ.1, none) H1 := by
  refine ⟨Nat.le_trans h.1 hz, fun q hq => ?_, h.2.2.1, fun k hk => by cases hk⟩
  rcases h.2.1 q hq with h2 | h2
  · exact Or.inl h2
  · exact Or.inr (h2.kept (ho q h2.lt))
theorem zRep.none {X : zX} {σ : zS} {H : Heap} (h : zRep X σ H) : zRep X (σ.1, none) H := ⟨h.1, h.2.1, h.2.2.1, fun k hk => by cases hk⟩
def zFN : List (String × Nat × String × String × String) := [("BraidCourt$Curve", 24, "BraidCourt$Word", "letters", "[I"), ("BraidCourt$Relaxer", 47, "BraidCourt$Word", "letters", "[I"), ("BraidCourt", 155, "BraidCourt$Word", "letters", "[I"), ("BraidCourt$Curve", 18, "BraidCourt$Word", "length", "I"), ("BraidCourt$Judge", 76, "BraidCourt$Word", "length", "I"), ("BraidCourt$Relaxer", 42, "BraidCourt$Word", "length", "I"), ("BraidCourt", 121, "BraidCourt$Word", "length", "I"), ("BraidCourt$Docket", 47, "BraidCourt$Word", "length", "I"), ("BraidCourt$Judge", 59, "BraidCourt$Docket", "words", "[LBraidCourt$Word;"), ("BraidCourt", 112, "BraidCourt$Docket", "words", "[LBraidCourt$Word;"), ("BraidCourt$Judge", 95, "BraidCourt$Docket", "restsOn", "[I"), ("BraidCourt", 235, "BraidCourt$Docket", "restsOn", "[I"), ("BraidCourt$Judge", 147, "BraidCourt$Docket", "makers", "[I"), ("BraidCourt$Judge", 156, "BraidCourt$Docket", "tangled", "[Z"), ("BraidCourt$Judge", 91, "BraidCourt$Docket", "appealed", "[Z"), ("BraidCourt", 257, "BraidCourt$Docket", "appealed", "[Z"), ("BraidCourt", 147, "BraidCourt$Docket", "cases", "I"), ("BraidCourt$Judge", 173, "BraidCourt$Docket", "cases", "I"), ("BraidCourt$Judge", 162, "BraidCourt$Docket", "precedents", "I"), ("BraidCourt", 251, "BraidCourt$Docket", "precedents", "I"), ("BraidCourt$Judge", 120, "BraidCourt$Relaxer", "done", "[I"), ("BraidCourt", 354, "BraidCourt$Relaxer", "done", "[I"), ("BraidCourt$Judge", 88, "BraidCourt$Relaxer", "doneLength", "I"), ("BraidCourt", 172, "BraidCourt$Relaxer", "doneLength", "I"), ("BraidCourt$Judge", 127, "BraidCourt$Relaxer", "reductions", "I"), ("BraidCourt$Judge", 84, "BraidCourt$Relaxer", "failed", "Z"), ("BraidCourt", 395, "BraidCourt$Relaxer", "failed", "Z"), ("BraidCourt", 199, "BraidCourt$Curve", "values", "[J"), ("BraidCourt", 16, "BraidCourt$Judge", "docket", "LBraidCourt$Docket;"), ("BraidCourt", 21, "BraidCourt$Judge", "relaxer", "LBraidCourt$Relaxer;"), ("BraidCourt", 367, "BraidCourt$History", "count", "I"), ("BraidCourt", 313, "BraidCourt$Script", "commands", "[LBraidCourt$Command;"), ("BraidCourt", 317, "BraidCourt$Script", "numbers", "[I"), ("BraidCourt", 333, "BraidCourt$Script", "letters", "[I"), ("BraidCourt", 310, "BraidCourt$Script", "count", "I"), ("BraidCourt", 301, "BraidCourt$Script", "at", "I"), ("BraidCourt$Script", 50, "BraidCourt$Command", "ALL", "[LBraidCourt$Command;"), ("BraidCourt$Script", 53, "BraidCourt$Command", "spelling", "Ljava/lang/String;"), ("BraidCourt$Script", 80, "BraidCourt$Command", "takesCase", "Z")]
def zMN : List (String × Nat × MethodName) := [("BraidCourt", 11, ⟨"BraidCourt$Judge", "<init>", "()V"⟩), ("BraidCourt$Docket", 38, ⟨"BraidCourt$Word", "<init>", "()V"⟩), ("BraidCourt$Judge", 20, ⟨"BraidCourt$Relaxer", "<init>", "()V"⟩), ("BraidCourt$Judge", 27, ⟨"BraidCourt$Curve", "<init>", "()V"⟩), ("BraidCourt", 44, ⟨"BraidCourt$Curve", "<init>", "()V"⟩), ("BraidCourt$Relaxer", 66, ⟨"BraidCourt", "beginOfHandle", "([II)I"⟩), ("BraidCourt$Relaxer", 54, ⟨"BraidCourt", "indexOf", "(I)I"⟩), ("BraidCourt$Relaxer", 58, ⟨"BraidCourt", "signOf", "(J)I"⟩), ("BraidCourt$Curve", 36, ⟨"BraidCourt", "indexOf", "(I)I"⟩), ("BraidCourt$Curve", 32, ⟨"BraidCourt", "signOf", "(J)I"⟩), ("BraidCourt$Word", 19, ⟨"BraidCourt", "beginOfHandle", "([II)I"⟩), ("BraidCourt$Word", 23, ⟨"BraidCourt", "signOf", "(J)I"⟩), ("BraidCourt$Word", 27, ⟨"BraidCourt", "indexOf", "(I)I"⟩), ("BraidCourt$Word", 31, ⟨"BraidCourt", "positionAfter", "(II)I"⟩), ("BraidCourt$Script", 87, ⟨"BraidCourt", "letterOf", "(C)I"⟩)]
def zCA : List (String × String) := [("java/lang/UnsupportedOperationException", "java/lang/UnsupportedOperationException"), ("java/lang/ArrayIndexOutOfBoundsException", "java/lang/ArrayIndexOutOfBoundsException"), ("java/lang/IndexOutOfBoundsException", "java/lang/IndexOutOfBoundsException"), ("java/lang/IllegalArgumentException", "java/lang/IllegalArgumentException"), ("java/util/NoSuchElementException", "java/util/NoSuchElementException"), ("java/lang/IllegalStateException", "java/lang/IllegalStateException"), ("java/lang/ArithmeticException", "java/lang/ArithmeticException"), ("java/lang/ArrayIndexOutOfBoundsException", "java/lang/IndexOutOfBoundsException"), ("BraidCourt", "java/lang/Object"), ("BraidCourt$Judge", "java/lang/Object"), ("BraidCourt$Docket", "java/lang/Object"), ("BraidCourt$Word", "java/lang/Object"), ("BraidCourt$Relaxer", "java/lang/Object"), ("BraidCourt$Curve", "java/lang/Object"), ("BraidCourt$History", "java/lang/Object"), ("BraidCourt$Script", "java/lang/Object"), ("BraidCourt$Command", "java/lang/Object"), ("BraidCourtModel", "java/lang/Object"), ("java/lang/UnsupportedOperationException", "java/lang/Object"), ("java/lang/ArrayIndexOutOfBoundsException", "java/lang/Object"), ("java/lang/IndexOutOfBoundsException", "java/lang/Object"), ("java/lang/IllegalArgumentException", "java/lang/Object"), ("java/util/NoSuchElementException", "java/lang/Object"), ("java/lang/IllegalStateException", "java/lang/Object"), ("java/lang/ArithmeticException", "java/lang/Object"), ("java/lang/Throwable", "java/lang/Object"), ("java/lang/String", "java/lang/Object")]
def zNC : List (String × String) := [("BraidCourt", "java/lang/UnsupportedOperationException"), ("BraidCourt$Judge", "java/lang/UnsupportedOperationException"), ("BraidCourt$Docket", "java/lang/UnsupportedOperationException"), ("BraidCourt$Word", "java/lang/UnsupportedOperationException"), ("BraidCourt$Relaxer", "java/lang/UnsupportedOperationException"), ("BraidCourt$Curve", "java/lang/UnsupportedOperationException"), ("BraidCourt$History", "java/lang/UnsupportedOperationException"), ("BraidCourt$Script", "java/lang/UnsupportedOperationException"), ("BraidCourt$Command", "java/lang/UnsupportedOperationException"), ("BraidCourtModel", "java/lang/UnsupportedOperationException"), ("java/lang/ArrayIndexOutOfBoundsException", "java/lang/UnsupportedOperationException"), ("java/lang/IndexOutOfBoundsException", "java/lang/UnsupportedOperationException"), ("java/lang/IllegalArgumentException", "java/lang/UnsupportedOperationException"), ("java/util/NoSuchElementException", "java/lang/UnsupportedOperationException"), ("java/lang/IllegalStateException", "java/lang/UnsupportedOperationException"), ("java/lang/ArithmeticException", "java/lang/UnsupportedOperationException"), ("BraidCourt", "java/lang/IndexOutOfBoundsException"), ("BraidCourt$Judge", "java/lang/IndexOutOfBoundsException"), ("BraidCourt$Docket", "java/lang/IndexOutOfBoundsException"), ("BraidCourt$Word", "java/lang/IndexOutOfBoundsException"), ("BraidCourt$Relaxer", "java/lang/IndexOutOfBoundsException"), ("BraidCourt$Curve", "java/lang/IndexOutOfBoundsException"), ("BraidCourt$History", "java/lang/IndexOutOfBoundsException"), ("BraidCourt$Script", "java/lang/IndexOutOfBoundsException"), ("BraidCourt$Command", "java/lang/IndexOutOfBoundsException"), ("BraidCourtModel", "java/lang/IndexOutOfBoundsException"), ("java/lang/UnsupportedOperationException", "java/lang/IndexOutOfBoundsException"), ("java/lang/IllegalArgumentException", "java/lang/IndexOutOfBoundsException"), ("java/util/NoSuchElementException", "java/lang/IndexOutOfBoundsException"), ("java/lang/IllegalStateException", "java/lang/IndexOutOfBoundsException"), ("java/lang/ArithmeticException", "java/lang/IndexOutOfBoundsException"), ("BraidCourt", "java/lang/IllegalArgumentException"), ("BraidCourt$Judge", "java/lang/IllegalArgumentException"), ("BraidCourt$Docket", "java/lang/IllegalArgumentException"), ("BraidCourt$Word", "java/lang/IllegalArgumentException"), ("BraidCourt$Relaxer", "java/lang/IllegalArgumentException"), ("BraidCourt$Curve", "java/lang/IllegalArgumentException"), ("BraidCourt$History", "java/lang/IllegalArgumentException"), ("BraidCourt$Script", "java/lang/IllegalArgumentException"), ("BraidCourt$Command", "java/lang/IllegalArgumentException"), ("BraidCourtModel", "java/lang/IllegalArgumentException"), ("java/lang/UnsupportedOperationException", "java/lang/IllegalArgumentException"), ("java/lang/ArrayIndexOutOfBoundsException", "java/lang/IllegalArgumentException"), ("java/lang/IndexOutOfBoundsException", "java/lang/IllegalArgumentException"), ("java/util/NoSuchElementException", "java/lang/IllegalArgumentException"), ("java/lang/IllegalStateException", "java/lang/IllegalArgumentException"), ("java/lang/ArithmeticException", "java/lang/IllegalArgumentException"), ("BraidCourt", "java/util/NoSuchElementException"), ("BraidCourt$Judge", "java/util/NoSuchElementException"), ("BraidCourt$Docket", "java/util/NoSuchElementException"), ("BraidCourt$Word", "java/util/NoSuchElementException"), ("BraidCourt$Relaxer", "java/util/NoSuchElementException"), ("BraidCourt$Curve", "java/util/NoSuchElementException"), ("BraidCourt$History", "java/util/NoSuchElementException"), ("BraidCourt$Script", "java/util/NoSuchElementException"), ("BraidCourt$Command", "java/util/NoSuchElementException"), ("BraidCourtModel", "java/util/NoSuchElementException"), ("java/lang/UnsupportedOperationException", "java/util/NoSuchElementException"), ("java/lang/ArrayIndexOutOfBoundsException", "java/util/NoSuchElementException"), ("java/lang/IndexOutOfBoundsException", "java/util/NoSuchElementException"), ("java/lang/IllegalArgumentException", "java/util/NoSuchElementException"), ("java/lang/IllegalStateException", "java/util/NoSuchElementException"), ("java/lang/ArithmeticException", "java/util/NoSuchElementException"), ("BraidCourt", "java/lang/IllegalStateException"), ("BraidCourt$Judge", "java/lang/IllegalStateException"), ("BraidCourt$Docket", "java/lang/IllegalStateException"), ("BraidCourt$Word", "java/lang/IllegalStateException"), ("BraidCourt$Relaxer", "java/lang/IllegalStateException"), ("BraidCourt$Curve", "java/lang/IllegalStateException"), ("BraidCourt$History", "java/lang/IllegalStateException"), ("BraidCourt$Script", "java/lang/IllegalStateException"), ("BraidCourt$Command", "java/lang/IllegalStateException"), ("BraidCourtModel", "java/lang/IllegalStateException"), ("java/lang/UnsupportedOperationException", "java/lang/IllegalStateException"), ("java/lang/ArrayIndexOutOfBoundsException", "java/lang/IllegalStateException"), ("java/lang/IndexOutOfBoundsException", "java/lang/IllegalStateException"), ("java/lang/IllegalArgumentException", "java/lang/IllegalStateException"), ("java/util/NoSuchElementException", "java/lang/IllegalStateException"), ("java/lang/ArithmeticException", "java/lang/IllegalStateException"), ("BraidCourt", "java/lang/ArithmeticException"), ("BraidCourt$Judge", "java/lang/ArithmeticException"), ("BraidCourt$Docket", "java/lang/ArithmeticException"), ("BraidCourt$Word", "java/lang/ArithmeticException"), ("BraidCourt$Relaxer", "java/lang/ArithmeticException"), ("BraidCourt$Curve", "java/lang/ArithmeticException"), ("BraidCourt$History", "java/lang/ArithmeticException"), ("BraidCourt$Script", "java/lang/ArithmeticException"), ("BraidCourt$Command", "java/lang/ArithmeticException"), ("BraidCourtModel", "java/lang/ArithmeticException"), ("java/lang/UnsupportedOperationException", "java/lang/ArithmeticException"), ("java/lang/ArrayIndexOutOfBoundsException", "java/lang/ArithmeticException"), ("java/lang/IndexOutOfBoundsException", "java/lang/ArithmeticException"), ("java/lang/IllegalArgumentException", "java/lang/ArithmeticException"), ("java/util/NoSuchElementException", "java/lang/ArithmeticException"), ("java/lang/IllegalStateException", "java/lang/ArithmeticException")]
def zAO : List String := ["BraidCourt$Word", "BraidCourt$Docket", "BraidCourt$Command"]
def zST : List (String × Nat × String) := [("BraidCourt", 406, "the call is denied"), ("BraidCourt", 381, "there is no such case"), ("BraidCourt", 104, "there is no such letter"), ("BraidCourt", 152, "there is no such position"), ("BraidCourt", 383, "there is no handle"), ("BraidCourt", 398, "the relaxation fails"), ("BraidCourt", 193, "there is no such coordinate"), ("BraidCourt", 220, "there is no such rank"), ("BraidCourt", 244, "the case is undecided"), ("BraidCourt", 249, "there is no such precedent"), ("BraidCourt", 272, "there are no cases"), ("BraidCourt", 278, "no case is decided"), ("BraidCourt", 289, "the text buffer is full"), ("BraidCourt", 304, "the text does not match the grammar"), ("BraidCourt", 330, "a command failed"), ("BraidCourt", 341, "no fault position was kept yet"), ("BraidCourt", 359, "there is no such index"), ("BraidCourt", 400, "nothing was denied yet"), ("BraidCourt", 365, "the latest denial has no cause"), ("BraidCourt", 368, "there is no change to undo"), ("BraidCourt", 373, "there is no snapshot")]
def zSM : List (Nat × String × Nat) := [(247, "pen", 0), (253, "elax", 1), (258, "ecide", 2), (260, "ppeal", 3), (262, "oss", 4), (267, "t", 5), (269, "ancel", 6)]
def zEN : List String := ["OPEN", "CROSS", "CUT", "CANCEL", "RELAX", "DECIDE", "APPEAL"]
def zTX : List (List Int32) := [[111, 112, 101, 110], [99, 114, 111, 115, 115, 32], [99, 117, 116, 32], [99, 97, 110, 99, 101, 108, 32], [114, 101, 108, 97, 120, 32], [100, 101, 99, 105, 100, 101, 32], [97, 112, 112, 101, 97, 108, 32], [112, 101, 110], [101, 108, 97, 120], [101, 99, 105, 100, 101], [112, 112, 101, 97, 108], [111, 115, 115], [116], [97, 110, 99, 101, 108]]
/-- SwitchMap -/
def zSW : List Int32 := [4, 1, 2, 5, 3, 6, 0]
def zCS : List Nat := [53, 59, 62, 65, 68, 71, 74]
/-! what the Statement gives of the constants: the words that are not good ones, statics, enum constants, texts -/
/-- an object outside: a reference that its class's objects stand at, its fields -/
def zNest (U : State) : Prop :=
  (∀ q ∈ zFN, va_Nw (.fieldLinkNest q.1 q.2.1 q.2.2.1 q.2.2.2.1 q.2.2.2.2 "BraidCourt") U) ∧ (∀ q ∈ zMN, va_Nw (.methodLinkNest q.1 q.2.1 q.2.2 "BraidCourt") U) ∧ (∀ q ∈ zCA, va_Nw (.castable q.1 q.2) U) ∧ (∀ q ∈ zNC, va_Nc q.1 q.2 U) ∧ (∀ q ∈ zAO, va_AO q U) ∧ (∀ q ∈ zST, ∃ a : Nat, vk_R q.1 q.2.1 q.2.2 a U)
theorem zNest.enter {s U : State} (hW : s.WarmedH U.vm) (h : zNest s) : zNest U := by
  obtain ⟨h1, h2, h3, h4, h5, h6⟩ := h
  refine ⟨fun q hq => (h1 q hq).warmF hW, fun q hq => (h2 q hq).warmM hW, fun q hq => va_Nw.warmC hW (h3 q hq), fun q hq => (h4 q hq).moved hW.alike, fun q hq => (h5 q hq).moved hW.alike, fun q hq => ?_⟩
  obtain ⟨a, ha⟩ := h6 q hq
  exact ⟨a, ha.warm hW⟩
/-- a text at a with its bytes at b -/
def zText (a b n : Nat) (f : Nat → Int32) (A : Nat → Prop) (U : State) (H : Heap) : Prop :=
  va_O "java/lang/String" a A U H ∧ va_OF "java/lang/String" "coder" "B" (.int 0) a A U H ∧ va_OF "java/lang/String" "value" "[B" (.ref b) a A U H ∧ va_T .byte b n (fun j => .int (f j)) A U H
theorem zText.moved {a b n : Nat} {f : Nat → Int32} {A : Nat → Prop} {u U : State} {H : Heap} (hvm : u.vm.Alike U.vm) (h : zText a b n f A u H) : zText a b n f A U H :=
  ⟨h.1.moved hvm, h.2.1.moved hvm, h.2.2.1.moved hvm, h.2.2.2.moved hvm⟩
theorem zText.kept {a b n : Nat} {f : Nat → Int32} {A : Nat → Prop} {U : State} {H H1 : Heap} (h : zText a b n f A U H) (hq : ∀ a : Nat, a < H.size → ¬ A a → H1[a]? = H[a]?) : zText a b n f A U H1 :=
  ⟨h.1.kept hq, h.2.1.kept hq, h.2.2.1.kept hq, h.2.2.2.kept hq⟩
/-- the constants of Command: their statics, objects, fields; all different -/
def zEnum (X : zX) (U : State) (H : Heap) : Prop :=
  (∀ i : Nat, i < 7 → va_Z "BraidCourt$Command" (zEN.getD i "") "LBraidCourt$Command;" (.ref (zQ X i)) (zA X) U H ∧ va_O "BraidCourt$Command" (zQ X i) (zA X) U H ∧ va_OF "java/lang/Enum" "ordinal" "I" (.int (nI i)) (zQ X i) (zA X) U H ∧ va_OF "BraidCourt$Command" "takesCase" "Z" (.int (if i = 0 then 0 else 1)) (zQ X i) (zA X) U H ∧ va_OF "BraidCourt$Command" "spelling" "Ljava/lang/String;" (.ref (zQ X (7 + i))) (zQ X i) (zA X) U H) ∧ ∀ i j : Nat, i < 7 → j < 7 → zQ X i = zQ X j → i = j
theorem zEnum.moved {X : zX} {u U : State} {H : Heap} (hvm : u.vm.Alike U.vm) (h : zEnum X u H) : zEnum X U H :=
  ⟨fun i hi => ⟨(h.1 i hi).1.moved hvm, (h.1 i hi).2.1.moved hvm, (h.1 i hi).2.2.1.moved hvm, (h.1 i hi).2.2.2.1.moved hvm, (h.1 i hi).2.2.2.2.moved hvm⟩, h.2⟩
theorem zEnum.kept {X : zX} {U : State} {H H1 : Heap} (h : zEnum X U H) (hq : ∀ a : Nat, a < H.size → ¬ zA X a → H1[a]? = H[a]?) : zEnum X U H1 :=
  ⟨fun i hi => ⟨(h.1 i hi).1.kept hq, (h.1 i hi).2.1.kept hq, (h.1 i hi).2.2.1.kept hq, (h.1 i hi).2.2.2.1.kept hq, (h.1 i hi).2.2.2.2.kept hq⟩, h.2⟩
/-- the texts: the seven spellings, the seven ends that the reference looks for -/
def zTexts (X : zX) (U : State) (H : Heap) : Prop := ∀ i : Nat, i < 14 → zText (zQ X (7 + i)) (zQ X (21 + i)) ((zTX.getD i []).length) (fun j => (zTX.getD i []).getD j 0) (zA X) U H
def zMT (X : zX) (U : State) : Prop := ∀ q ∈ zSM, vk_R "BraidCourtModel" q.1 q.2.1 (zQ X (14 + q.2.2)) U
def zStat (X : zX) (U : State) (H : Heap) : Prop :=
  va_Z "BraidCourt$Command" "ALL" "[LBraidCourt$Command;" (.ref (zQ X 35)) (zA X) U H ∧ va_T (.object "BraidCourt$Command") (zQ X 35) 7 (fun j => .ref (zQ X j)) (zA X) U H ∧ va_Z "BraidCourt$1" "$SwitchMap$BraidCourt$Command" "[I" (.ref (zQ X 36)) (zA X) U H ∧ va_T .int (zQ X 36) 7 (fun j => .int (zSW.getD j 0)) (zA X) U H ∧ va_Z "java/lang/String" "COMPACT_STRINGS" "Z" (.int 1) (zA X) U H ∧ va_Zq "jdk/internal/util/Preconditions" "SIOOBE_FORMATTER" "Ljava/util/function/BiFunction;" (zA X) U H ∧ vx_Zq Bundle.tN "UNASSIGNED_STACK" Bundle.steD (zA X) U H ∧ vx_Zq Bundle.tN "SUPPRESSED_SENTINEL" Bundle.listD (zA X) U H ∧ va_X (zQ X 37) X.2.2.2.2.2.1 X.2.2.2.2.2.2 U H ∧ ¬ zA X (zQ X 37) ∧ zQ X 37 < H.size
def zS0 (X : zX) (U : State) (H : Heap) : Prop := va_K (zD X) zcl (ztys X) U ∧ zNest U ∧ zMT X U ∧ zEnum X U H ∧ zTexts X U H ∧ zStat X U H ∧ zB X ≤ H.size
theorem zS0.enter {X : zX} {s U : State} {H H1 : Heap} (hW : s.WarmedH U.vm) (hz : H.size ≤ H1.size) (hq : ∀ a : Nat, a < H.size → ¬ zA X a → H1[a]? = H[a]?) (h : zS0 X s H) : zS0 X U H1 := by
  obtain ⟨h1, h2, h3, h4, h5, ⟨g1, g2, g3, g4, g5, g6, g7, g8, g9, g10, g11⟩, h7⟩ := h
  have ha := hW.alike
  refine ⟨h1.moved ha, h2.enter hW, fun q hq => (h3 q hq).warm hW, (h4.moved ha).kept hq, fun i hi => ((h5 i hi).moved ha).kept hq, ⟨(g1.moved ha).kept hq, (g2.moved ha).kept hq, (g3.moved ha).kept hq, (g4.moved ha).kept hq, (g5.moved ha).kept hq, (va_Zq.moved ha g6).kept hq, (vx_Zq.moved ha g7).kept hq, (vx_Zq.moved ha g8).kept hq, (g9.moved ha).kept (hq _ g11 g10), g10, Nat.lt_of_lt_of_le g11 hz⟩, Nat.le_trans h7 hz⟩
/-- locals by their places -/
def zL (r : Array Slot) (nL : Nat) (ls : List (Option Value)) : Prop := r.size = nL ∧ lv_wf r ∧ ∀ (i : Nat) (v : Value), ls[i]? = some (some v) → r[i]? = some (.val v)
def zclr (ls : List (Option Value)) (i : Nat) : List (Option Value) := match i with
  | 0 => ls
  | j + 1 => match ls[j]? with
    | some (some (.long _)) => ls.set j none
    | some (some (.double _)) => ls.set j none
    | _ => ls
def zput1 (ls : List (Option Value)) (i : Nat) (v : Value) : List (Option Value) := (zclr ls i).set i (some v)
def zput2 (ls : List (Option Value)) (i : Nat) (v : Value) : List (Option Value) := ((zclr ls i).set i (some v)).set (i + 1) none
theorem zclr_get {ls : List (Option Value)} {i k : Nat} {v : Value} (h : (zclr ls i)[k]? = some (some v)) : ls[k]? = some (some v) ∧ (k + 1 = i → v.category ≠ 2) := by
  unfold zclr at h
  split at h
  · exact ⟨h, fun e => by omega⟩
  · rename_i j
    have key : ∀ x : Value, (ls.set j none)[k]? = some (some x) → ls[k]? = some (some x) ∧ (k + 1 = j + 1 → x.category ≠ 2) := by
      intro x hx
      by_cases e : k = j
      · subst e
        rw [List.getElem?_set] at hx
        simp only [if_true] at hx
        split at hx
        · cases hx
        · cases hx
      · rw [List.getElem?_set_ne (Ne.symm e)] at hx
        exact ⟨hx, fun q => absurd (Nat.succ.inj q) e⟩
    split at h
    · exact key v h
    · exact key v h
    · rename_i n1 n2
      refine ⟨h, fun e c2 => ?_⟩
      have ek : k = j := Nat.succ.inj e
      subst ek
      cases v with
      | long x => exact n1 x h
      | double x => exact n2 x h
      | _ => simp [Value.category] at c2
/-- the kit's list of what is known -/
theorem zL.kit {r : Array Slot} {nL : Nat} {ls : List (Option Value)} (h : zL r nL ls) {lv : List (Nat × Value)} (hl : ∀ q ∈ lv, ls[q.1]? = some (some q.2)) : lv_has r nL lv := ⟨h.1, h.2.1, fun q hq => h.2.2 q.1 q.2 (hl q hq)⟩
/-! ===== the judgement ===== -/
def zQc (X : zX) (Q : zO → zS → Prop) : Array Value → State → Outcome → State → Prop := fun _ st o t => ∃ (v : Option Value) (σ : zS), o = .returned v ∧ Q (.inl v) σ ∧ zRep X σ t.heap ∧ va_F (zA X) st t
def zXC (X : zX) (Q : zO → zS → Prop) : String → State → State → Prop := fun E st t => ∃ σ : zS, Q (.inr E) σ ∧ zRep X σ t.heap ∧ va_F (zA X) st t
/-- what stands fast in a method's body -/
def zM (X : zX) (M : zMd) (p : Program) (s : State) (m : MethodId) (args : Array Value) (meth : Method) (c : Code) : Prop :=
  p.tables.exec = Jvm.exec ∧ c.code = M.2.1 ∧ c.maxLocals = M.2.2.1 ∧ meth.sig.returnType = M.2.2.2.1 ∧ meth.locks = false ∧ s.vm.findClass M.1 = some m.cls ∧ (∀ w ∈ zBig, w.before args s = true) ∧ zS0 X s s.heap ∧ (M.2.2.2.2.1 = true → meth.name = "<init>") ∧ X.1.stackTraces = false ∧ c.exceptionTable.toList = tableOf M.2.2.2.2.2
def zR (d : Nat) (R : Room) : Prop := d ≤ R.frames ∧ 100 + 50 * d ≤ R.locals
def zW (X : zX) (M : zMd) (d bc bs : Nat) (Q : zO → zS → Prop) (pc : Nat) (ls : List (Option Value)) (st : List Value) (σ : zS) : Prop :=
  ∀ (p : Program) (e : Env) (s : State) (m : MethodId) (args : Array Value) (below : List Frame) (meth : Method) (c : Code) (R : Room) (H : Heap) (locs : List Loc) (cells slots : Nat) (r : Array Slot),
    zM X M p s m args meth c → zR d R → cells + bc ≤ R.cells → slots + bs ≤ R.slots → va_S (zA X) s.heap H locs → zRep X σ H → zL r M.2.2.1 ls →
    W p X.1 e R s m args below meth c H locs cells slots (vx_MQ below (zQc X Q) (zXC X Q) args s R.cells R.slots (zA X)) (F0 m pc r st)
