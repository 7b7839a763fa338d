/-! THE FLAT MEMORY. Every object and array that the run makes lies at an address from 'lo' on; what it is (class, or element type and length) and which cells it names is the geometry G; the numbers in it are the values V. -/
/-- first own address; class and slot numbers; the array classes; the heap at the start; where the texts lie, where their bytes lie -/
abbrev zP : Type := Nat × va_G × (Nat → ClassId) × Heap × (Nat → Nat) × (Nat → Nat)
/-- one past the last address; kind and length of each; reference fields (field, address); elements of arrays of references (address, place) -/
abbrev zG : Type := Nat × (Nat → Nat × Nat) × (Nat → Nat → Option Nat) × (Nat → Nat → Option Nat)
/-- int fields; long fields (field, address); elements of int and byte arrays; of long arrays (address, place) -/
abbrev zV : Type := (Nat → Nat → Int32) × (Nat → Nat → Int64) × (Nat → Nat → Int32) × (Nat → Nat → Int64)
/-- how a field is kept: 0 int or boolean, 1 long, 2 reference -/
def fTags : List (List Nat) := [[2], [2, 0, 0, 0, 2, 2, 2, 2, 2, 2, 2, 2, 2, 0, 0], [0, 2], [0, 0, 0, 2], [2, 0, 0, 0, 0], [2, 2, 0, 0, 0, 0, 0, 0], [2, 0, 0, 2], [2, 2, 0, 2, 2, 2, 2, 2, 2, 2, 2, 2],
  [2, 2, 2, 2, 2, 2, 2, 2, 2, 0, 2, 0, 2, 0, 0, 0, 0, 0, 0, 0, 0, 2, 2, 0, 0, 0, 1, 0, 2, 2, 2, 2, 2, 2, 2, 2, 2, 2, 2, 0, 0, 0, 0, 0, 0, 0]]
def fTag (c k : Nat) : Nat := (fTags.getD c []).getD k 0
def fN (c : Nat) : Nat := (fTags.getD c []).length
def zTy : Nat → FieldType := fun t => match t with
  | 0 => .byte
  | 1 => .int
  | 2 => .long
  | 3 => .object "SendTheBox$House"
  | 4 => .object "SendTheBox$Plan"
  | 5 => .object "SendTheBox$Row"
  | 6 => .object "SendTheBox$Rule"
  | 7 => .array .int
  | _ => .array .long
def fV (G : zG) (V : zV) (c k a : Nat) : Value := match fTag c k with
  | 0 => .int (V.1 (50 * c + k) a)
  | 1 => .long (V.2.1 (50 * c + k) a)
  | _ => va_rf (G.2.2.1 (50 * c + k) a)
def aV (G : zG) (V : zV) (t a j : Nat) : Value := match t with
  | 0 => .int (V.2.2.1 a j)
  | 1 => .int (V.2.2.1 a j)
  | 2 => .long (V.2.2.2 a j)
  | _ => va_rf (G.2.2.2 a j)
def cOK (Z : zP) (G : zG) (V : zV) (H : Heap) (a : Nat) : Prop :=
  ((G.2.1 a).1 < 9 → t_OB a (Z.2.1.1 (G.2.1 a).1) (fN (G.2.1 a).1) (Z.2.1.2 (G.2.1 a).1) H (fun k => fV G V (G.2.1 a).1 k a)) ∧
  (¬ (G.2.1 a).1 < 9 → H[a]? = some (arrV (Z.2.2.1 ((G.2.1 a).1 - 9)) (G.2.1 a).2 (fun j => aV G V ((G.2.1 a).1 - 9) a j)))
/-- nothing is kept at an address that is not made yet -/
def zFr (G : zG) (V : zV) : Prop := ∀ a f : Nat, G.1 ≤ a → V.1 f a = 0 ∧ V.2.1 f a = 0 ∧ G.2.2.1 f a = none ∧ V.2.2.1 a f = 0 ∧ V.2.2.2 a f = 0 ∧ G.2.2.2 a f = none
def MemOK (Z : zP) (G : zG) (V : zV) (H : Heap) : Prop := H.size = G.1 ∧ Z.1 ≤ G.1 ∧ (∀ a : Nat, Z.1 ≤ a → a < G.1 → cOK Z G V H a) ∧ zFr G V ∧ ∀ a : Nat, a < Z.1 → H[a]? = Z.2.2.2.1[a]?
/-- an object of class c -/
def isK (Z : zP) (G : zG) (a c : Nat) : Prop := Z.1 ≤ a ∧ a < G.1 ∧ (G.2.1 a).1 = c
/-- an array with elements of type t, of length n -/
def isA (Z : zP) (G : zG) (a t n : Nat) : Prop := Z.1 ≤ a ∧ a < G.1 ∧ G.2.1 a = (9 + t, n)
def u2 {α : Type} (f : Nat → Nat → α) (i j : Nat) (v : α) : Nat → Nat → α := fun x y => if x = i ∧ y = j then v else f x y
def sI (V : zV) (f a : Nat) (v : Int32) : zV := (u2 V.1 f a v, V.2)
def sL (V : zV) (f a : Nat) (v : Int64) : zV := (V.1, u2 V.2.1 f a v, V.2.2)
def sAI (V : zV) (a i : Nat) (v : Int32) : zV := (V.1, V.2.1, u2 V.2.2.1 a i v, V.2.2.2)
def sAJ (V : zV) (a i : Nat) (v : Int64) : zV := (V.1, V.2.1, V.2.2.1, u2 V.2.2.2 a i v)
def sR (G : zG) (f a : Nat) (v : Option Nat) : zG := (G.1, G.2.1, u2 G.2.2.1 f a v, G.2.2.2)
def sAR (G : zG) (a i : Nat) (v : Option Nat) : zG := (G.1, G.2.1, G.2.2.1, u2 G.2.2.2 a i v)
/-- one cell more, of kind t (9 and more: an array of n elements) -/
def nG (G : zG) (t n : Nat) : zG := (G.1 + 1, va_up G.2.1 G.1 (t, n), G.2.2)
def zTys (Z : zP) : List (ClassId × FieldType) := (List.range 7).map (fun t => (Z.2.2.1 t, zTy t))
theorem zTys_at (Z : zP) {t : Nat} (h : t < 7) : (zTys Z)[t]? = some (Z.2.2.1 t, zTy t) := by
  unfold zTys
  rw [List.getElem?_map, List.getElem?_range h]
  rfl
/-- the words that every contract takes -/
def WA : List Cond := lw_tbl.filter goodWord
theorem WA_in {w : Cond} (h : w ∈ lw_tbl) (h2 : goodWord w = true) : w ∈ WA := List.mem_filter.mpr ⟨h, h2⟩
theorem WA_tbl {w : Cond} (h : w ∈ WA) : w ∈ lw_tbl := (List.mem_filter.mp h).1
theorem WA_good : GoodIn WA WA := fun w h => ⟨h, good_of_word (List.mem_filter.mp h).2⟩
def nestW : Cond → Bool
  | .fieldLinkNest .. => true
  | .methodLinkNest .. => true
  | _ => false
def WN : List Cond := tables_1.filter nestW
def WO : List FieldType := [.object "SendTheBox$House", .object "SendTheBox$Plan", .object "SendTheBox$Row", .object "SendTheBox$Rule"]
def WO2 : List FieldType := []
/-- the texts of the class and of the reference: class, entry, text, which of the nine it is -/
def sTab : List (String × Nat × String × Nat) := [(RX4, 44, "days", 0), (RX4, 54, "box", 1), (RX4, 56, "room", 2), (RX4, 58, "full", 3), (RX4, 60, "sort", 4), (RX4, 91, "comes", 5), (RX4, 93, "hold", 6), (RX4, 95, "refuse", 7), (RX4, 97, "left", 8), (RL, 30, "days", 0), (RL, 40, ";box", 9), (RL, 42, "room", 2), (RL, 44, ";full", 10), (RL, 46, ";sort room", 11), (RL, 48, "comes", 5), (RL, 50, "hold", 6), (RL, 52, "refuse", 7), (RL, 54, "left", 8)]
/-- their letters -/
def sW : Nat → List Nat := fun i => match i with
  | 0 => [100, 97, 121, 115]
  | 1 => [98, 111, 120]
  | 2 => [114, 111, 111, 109]
  | 3 => [102, 117, 108, 108]
  | 4 => [115, 111, 114, 116]
  | 5 => [99, 111, 109, 101, 115]
  | 6 => [104, 111, 108, 100]
  | 7 => [114, 101, 102, 117, 115, 101]
  | 8 => [108, 101, 102, 116]
  | 9 => [59, 98, 111, 120]
  | 10 => [59, 102, 117, 108, 108]
  | _ => [59, 115, 111, 114, 116, 32, 114, 111, 111, 109]
/-- the script: at the address of text 12, as long as its length says -/
def scX (Z : zP) : Nat → Int32 := fun j => match (Z.2.2.2.1[Z.2.2.2.2.1 12]?).bind (fun c => c.slots[j]?) with
  | some (.int v) => v
  | _ => 0
abbrev scB (Z : zP) : Nat := Z.2.2.2.2.1 12
abbrev scL (Z : zP) : Nat := Z.2.2.2.2.2 12
def AmbS (Z : zP) (U : State) : Prop := (∀ q ∈ sTab, vk_R q.1 q.2.1 q.2.2.1 (Z.2.2.2.2.1 q.2.2.2) U) ∧
  (∀ i : Nat, i < 12 → va_O "java/lang/String" (Z.2.2.2.2.1 i) (fun q => Z.1 ≤ q) U Z.2.2.2.1 ∧ va_OF "java/lang/String" "coder" "B" (.int 0) (Z.2.2.2.2.1 i) (fun q => Z.1 ≤ q) U Z.2.2.2.1 ∧ va_OF "java/lang/String" "value" "[B" (.ref (Z.2.2.2.2.2 i)) (Z.2.2.2.2.1 i) (fun q => Z.1 ≤ q) U Z.2.2.2.1 ∧ va_T .byte (Z.2.2.2.2.2 i) (sW i).length (fun j => .int (nI ((sW i).getD j 0))) (fun q => Z.1 ≤ q) U Z.2.2.2.1) ∧
  va_Z "java/lang/String" "COMPACT_STRINGS" "Z" (.int 1) (fun q => Z.1 ≤ q) U Z.2.2.2.1 ∧ va_Zq "jdk/internal/util/Preconditions" "SIOOBE_FORMATTER" "Ljava/util/function/BiFunction;" (fun q => Z.1 ≤ q) U Z.2.2.2.1 ∧ va_T .int (scB Z) (scL Z) (fun j => .int (scX Z j)) (fun q => Z.1 ≤ q) U Z.2.2.2.1 ∧ scL Z ≤ 260
theorem AmbS.moved {Z : zP} {s U : State} (hW : s.WarmedH U.vm) (h : AmbS Z s) : AmbS Z U :=
  ⟨fun q hq => (h.1 q hq).warm hW, fun i hi => ⟨(h.2.1 i hi).1.moved hW.alike, (h.2.1 i hi).2.1.moved hW.alike, (h.2.1 i hi).2.2.1.moved hW.alike, (h.2.1 i hi).2.2.2.moved hW.alike⟩, h.2.2.1.moved hW.alike, h.2.2.2.1.moved hW.alike, h.2.2.2.2.1.moved hW.alike, h.2.2.2.2.2⟩
theorem AmbS.same {Z : zP} {s U : State} (hv : s.vm = U.vm) (h : AmbS Z s) : AmbS Z U :=
  have al : s.vm.Alike U.vm := hv ▸ Vm.Alike.refl s.vm
  ⟨fun q hq => vk_R.same hv.symm (h.1 q hq), fun i hi => ⟨(h.2.1 i hi).1.moved al, (h.2.1 i hi).2.1.moved al, (h.2.1 i hi).2.2.1.moved al, (h.2.1 i hi).2.2.2.moved al⟩, h.2.2.1.moved al, h.2.2.2.1.moved al, h.2.2.2.2.1.moved al, h.2.2.2.2.2⟩
/-- what holds of the machine's tables at every method's start, beside the words -/
def Amb (Z : zP) (U : State) : Prop := va_K Z.2.1 vwCl (zTys Z) U ∧ (∀ w ∈ WN, va_Nw w U) ∧ (∀ C : String, FieldType.object C ∈ WO → va_AO C U) ∧ (∀ t : FieldType, .array t ∈ WO2 → ∀ (a : Array Value), (Cond.arrayOver (.array t)).before a U = true) ∧ AmbS Z U
theorem nestW_moved {w : Cond} (h : nestW w = true) {s U : State} (hW : s.WarmedH U.vm) (hZ : va_Nw w s) : va_Nw w U := by
  cases w <;> first | exact va_Nw.warmF hW hZ | exact va_Nw.warmM hW hZ | simp [nestW] at h
theorem Amb.moved {Z : zP} {s U : State} (hW : s.WarmedH U.vm) (h : Amb Z s) : Amb Z U :=
  ⟨va_K.moved hW.alike h.1, fun w hw => nestW_moved (List.mem_filter.mp hw).2 hW (h.2.1 w hw), fun C hC => va_AO.moved hW.alike (h.2.2.1 C hC), fun t ht a => arrayOver_alikeB hW.alike (h.2.2.2.1 t ht #[]), h.2.2.2.2.moved hW⟩
theorem Amb.same {Z : zP} {s U : State} (hv : s.vm = U.vm) (h : Amb Z s) : Amb Z U :=
  ⟨va_K.moved (hv ▸ Vm.Alike.refl s.vm) h.1, fun w hw => va_Nw.same (by cases w <;> first | rfl | (have := (List.mem_filter.mp hw).2; simp [nestW] at this)) hv (h.2.1 w hw), fun C hC => va_AO.moved (hv ▸ Vm.Alike.refl s.vm) (h.2.2.1 C hC), fun t ht a => arrayOver_alikeB (hv ▸ Vm.Alike.refl s.vm) (h.2.2.2.1 t ht #[]), h.2.2.2.2.same hv⟩
/-- the machine at a method: program, launch, environment, room, state at its start, the method, its arguments, the frames below, the method's tables, its code -/
abbrev xP : Type := Program × Launch × Env × Room × State × MethodId × Array Value × List Frame × Method × Code
def xW (X : xP) (H : Heap) (locs : List Loc) (k n : Nat) (Q : State → Prop) (g : JFrame) : Prop := W X.1 X.2.1 X.2.2.1 X.2.2.2.1 X.2.2.2.2.1 X.2.2.2.2.2.1 X.2.2.2.2.2.2.1 X.2.2.2.2.2.2.2.1 X.2.2.2.2.2.2.2.2.1 X.2.2.2.2.2.2.2.2.2 H locs k n Q g
/-- locals: the first entry of a slot holds; none: nothing is known of it -/
def lk : List (Nat × Option Value) → Nat → Option Value
  | [], _ => none
  | q :: t, i => match Nat.beq q.1 i with
    | true => q.2
    | false => lk t i
def lwOK (lw : List (Nat × Option Value)) (nL : Nat) (ls : Array Slot) : Prop := ls.size = nL ∧ lv_wf ls ∧ ∀ (i : Nat) (v : Value), lk lw i = some v → ls[i]? = some (.val v)
/-- what is known of a method while it runs: code, size of locals, class, name, what it returns, how deep, how many cells and slots it may make -/
def Cx (Z : zP) (X : xP) (own nm : String) (cc : ByteArray) (nL : Nat) (ret : Option FieldType) (D mc ms : Nat) : Prop :=
  X.1.tables.exec = Jvm.exec ∧ X.2.2.2.2.2.2.2.2.2.code = cc ∧ X.2.2.2.2.2.2.2.2.2.maxLocals = nL ∧ X.2.2.2.2.1.vm.findClass own = some X.2.2.2.2.2.1.cls ∧ (∀ w ∈ WA, w.before X.2.2.2.2.2.2.1 X.2.2.2.2.1 = true) ∧ Amb Z X.2.2.2.2.1 ∧
  X.2.2.2.2.2.2.2.2.1.locks = false ∧ X.2.2.2.2.2.2.2.2.1.sig.returnType = ret ∧ X.2.2.2.2.2.2.2.2.1.name = nm ∧ D ≤ X.2.2.2.1.frames ∧ 36 * D ≤ X.2.2.2.1.locals ∧ mc ≤ X.2.2.2.1.cells ∧ ms ≤ X.2.2.2.1.slots ∧ Z.1 ≤ X.2.2.2.2.1.heap.size
/-- the weakest start: from the frame at pc with these locals and this stack, with the memory G V, k cells of n slots made so far, the machine comes to Q -/
def Wm (Z : zP) (X : xP) (nL : Nat) (G : zG) (V : zV) (k n : Nat) (Q : State → Prop) (pc : Nat) (lw : List (Nat × Option Value)) (st : List Value) : Prop :=
  ∀ (H : Heap) (locs : List Loc) (ls : Array Slot), MemOK Z G V H → va_S (fun q => Z.1 ≤ q) X.2.2.2.2.1.heap H locs → lwOK lw nL ls → xW X H locs k n Q (F0 X.2.2.2.2.2.1 pc ls st)
/-- a method's end -/
def zQ (Z : zP) (Post : Option Value → zG → zV → Prop) : Array Value → State → Outcome → State → Prop := fun _ st oc t => (∃ (r : Option Value) (G : zG) (V : zV), oc = .returned r ∧ Post r G V ∧ MemOK Z G V t.heap) ∧ va_F (fun q => Z.1 ≤ q) st t
def rQ (Z : zP) (X : xP) (mc ms : Nat) (Post : Option Value → zG → zV → Prop) : State → Prop := MQ X.2.2.2.2.2.2.2.1 (zQ Z Post) X.2.2.2.2.2.2.1 X.2.2.2.2.1 mc ms (fun q => Z.1 ≤ q)
/-- A CONTRACT: from the memory G V, with these arguments, the method returns, and Post holds of its answer and of the memory behind it; d frames deep, at most mc cells of ms slots -/
def CT (l : Launch) (Z : zP) (y : MethodName) (cc : ByteArray) (nL : Nat) (ret : Option FieldType) (D mc ms : Nat) (av : List Value) (G : zG) (V : zV) (Post : Option Value → zG → zV → Prop) : Prop :=
  Met l y (.code y cc nL ret :: WA) { frames := D, cells := mc, slots := ms, locals := 36 * D } (va_Pc av (fun U => MemOK Z G V U.heap ∧ Amb Z U)) (zQ Z Post) mc ms (fun q => Z.1 ≤ q)
def pI (x : Int32) (G : zG) (V : zV) : Option Value → zG → zV → Prop := fun r G' V' => r = some (.int x) ∧ G' = G ∧ V' = V
def pJ (x : Int64) (G : zG) (V : zV) : Option Value → zG → zV → Prop := fun r G' V' => r = some (.long x) ∧ G' = G ∧ V' = V
def pV (G : zG) (V : zV) : Option Value → zG → zV → Prop := fun r G' V' => r = none ∧ G' = G ∧ V' = V
def pR (o : Option Nat) (G : zG) (V : zV) : Option Value → zG → zV → Prop := fun r G' V' => r = some (va_rf o) ∧ G' = G ∧ V' = V
