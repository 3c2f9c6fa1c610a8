/-! the model's own words: memory, whole numbers -/
/-- memory: contents, kinds (0 none, 1 int[], 2 long[], 3 byte[], 4 boolean[], 5 World[], 10 + a class), lengths, the next address -/
abbrev Hp : Type := (Int → Int → Int) × (Int → Nat) × (Int → Int) × Int
abbrev hM (h : Hp) : Int → Int → Int := h.1
abbrev hT (h : Hp) : Int → Nat := h.2.1
abbrev hL (h : Hp) : Int → Int := h.2.2.1
abbrev hX (h : Hp) : Int := h.2.2.2
def w32 (x : Int) : Int := (Int32.ofInt x).toInt
def w64 (x : Int) : Int := (Int64.ofInt x).toInt
def up (h : Hp) (a k v : Int) : Hp := (fun a' k' => if a' = a ∧ k' = k then v else h.1 a' k', h.2)
/-- a field read -/
def gf (t : Nat) (h : Hp) (a k : Int) : Option Int := if h.2.1 a = t then some (h.1 a k) else none
/-- a field read that holds an object -/
def gr (t : Nat) (h : Hp) (a k : Int) : Option Int := if h.2.1 a = t ∧ 0 ≤ h.1 a k then some (h.1 a k) else none
/-- a field written -/
def pf (t : Nat) (h : Hp) (a k v : Int) : Option Hp := if h.2.1 a = t then some (up h a k v) else none
/-- a boolean field written -/
def pz (t : Nat) (h : Hp) (a k v : Int) : Option Hp := if h.2.1 a = t ∧ (w32 v = 0 ∨ w32 v = 1) then some (up h a k v) else none
/-- an array read, written -/
def ald (t : Nat) (h : Hp) (a i : Int) : Option Int := if h.2.1 a = t ∧ 0 ≤ w32 i ∧ w32 i < h.2.2.1 a then some (h.1 a (w32 i)) else none
def aldR (t : Nat) (h : Hp) (a i : Int) : Option Int := if h.2.1 a = t ∧ 0 ≤ w32 i ∧ w32 i < h.2.2.1 a ∧ 0 ≤ h.1 a (w32 i) then some (h.1 a (w32 i)) else none
def ast (t : Nat) (h : Hp) (a i v : Int) : Option Hp := if h.2.1 a = t ∧ 0 ≤ w32 i ∧ w32 i < h.2.2.1 a then some (up h a (w32 i) v) else none
def astR (t u : Nat) (h : Hp) (a i v : Int) : Option Hp := if h.2.1 a = t ∧ 0 ≤ w32 i ∧ w32 i < h.2.2.1 a ∧ h.2.1 v = u then some (up h a (w32 i) v) else none
def alen (t : Nat) (h : Hp) (a : Int) : Option Int := if h.2.1 a = t then some (h.2.2.1 a) else none
/-- a new cell -/
def nw (t : Nat) (n d : Int) (h : Hp) : Hp := (fun a' k' => if a' = h.2.2.2 then d else h.1 a' k', fun a' => if a' = h.2.2.2 then t else h.2.1 a', fun a' => if a' = h.2.2.2 then n else h.2.2.1 a', h.2.2.2 + 1)
/-- an object's new cell: its fields' defaults: 0, null is -1 -/
def nwo (ci : Nat) (d : Int → Int) (h : Hp) : Hp := (fun a' k' => if a' = h.2.2.2 then d k' else h.1 a' k', fun a' => if a' = h.2.2.2 then 10 + ci else h.2.1 a', fun a' => if a' = h.2.2.2 then 0 else h.2.2.1 a', h.2.2.2 + 1)
def cpy (t : Nat) (h : Hp) (a i a2 i2 n : Int) : Option Hp := if h.2.1 a = t ∧ h.2.1 a2 = t ∧ 0 ≤ w32 i ∧ 0 ≤ w32 i2 ∧ 0 ≤ w32 n ∧ w32 i + w32 n ≤ h.2.2.1 a ∧ w32 i2 + w32 n ≤ h.2.2.1 a2 then some (fun a' k' => if a' = a2 ∧ w32 i2 ≤ k' ∧ k' < w32 i2 + w32 n then h.1 a (w32 i + (k' - w32 i2)) else h.1 a' k', h.2) else none
/-- the receiver is of its class -/
def tk {β : Type} (t : Nat) (h : Hp) (a : Int) (x : Option β) : Option β := if h.2.1 a = t then x else none
def idv (x y : Int) : Option Int := if w32 y = 0 then none else some ((w32 x).tdiv (w32 y))
def irm (x y : Int) : Option Int := if w32 y = 0 then none else some ((w32 x).tmod (w32 y))
def ldv (x y : Int) : Option Int := if w64 y = 0 then none else some ((w64 x).tdiv (w64 y))
def lrm (x y : Int) : Option Int := if w64 y = 0 then none else some ((w64 x).tmod (w64 y))
def iand (x y : Int) : Int := (Int32.ofInt x &&& Int32.ofInt y).toInt
def ior (x y : Int) : Int := (Int32.ofInt x ||| Int32.ofInt y).toInt
def ishl (x y : Int) : Int := (Int32.ofInt x <<< (Int32.ofInt y &&& 31)).toInt
def ishr (x y : Int) : Int := (Int32.ofInt x >>> (Int32.ofInt y &&& 31)).toInt
def iushr (x y : Int) : Int := ((Int32.ofInt x).toUInt32 >>> ((Int32.ofInt y).toUInt32 &&& Int32.toUInt32 31)).toInt32.toInt
def land (x y : Int) : Int := (Int64.ofInt x &&& Int64.ofInt y).toInt
def lor (x y : Int) : Int := (Int64.ofInt x ||| Int64.ofInt y).toInt
def lxor (x y : Int) : Int := (Int64.ofInt x ^^^ Int64.ofInt y).toInt
def lshl (x y : Int) : Int := (Int64.ofInt x <<< ((Int32.ofInt y).toInt64 &&& 63)).toInt
def lshr (x y : Int) : Int := (Int64.ofInt x >>> ((Int32.ofInt y).toInt64 &&& 63)).toInt
def lushr (x y : Int) : Int := ((Int64.ofInt x).toUInt64 >>> ((Int32.ofInt y).toInt64.toUInt64 &&& Int64.toUInt64 63)).toInt64.toInt
def lcmp (x y : Int) : Int := if w64 y < w64 x then 1 else if w64 x = w64 y then 0 else -1
def i2b (x : Int) : Int := (Int32.ofInt x).toInt8.toInt32.toInt
/-- a boolean answer -/
def zb1 {β : Type} (v : Int) (x : β) : Option β := if w32 v = 0 ∨ w32 v = 1 then some x else none
/-- a loop -/
def wh {S T : Type} (body : S → Option (S ⊕ T)) : Nat → S → Option T
  | 0, _ => none
  | n + 1, s => (body s).bind (fun z => match z with
    | .inl s2 => wh body n s2
    | .inr x => some x)
/-- whole numbers, references as the machine holds them -/
abbrev qI (x : Int) : Value := .int (Int32.ofInt x)
abbrev qJ (x : Int) : Value := .long (Int64.ofInt x)
abbrev zGeo : Type := va_G × (Nat → ClassId) × (Nat → Nat) × (Nat → Nat) × Nat
abbrev zb (g : zGeo) : Nat := g.2.2.2.2
abbrev qR (g : zGeo) (a : Int) : Value := .ref (g.2.2.2.2 + a.toNat)
abbrev qS (g : zGeo) (i : Int) : Value := .ref (g.2.2.1 i.toNat)
def qN (g : zGeo) (a : Int) : Value := if a < 0 then .null else .ref (g.2.2.2.2 + a.toNat)
def fv (kind : Nat) (g : zGeo) (x : Int) : Value := match kind with
  | 0 => qI x
  | 1 => qJ x
  | _ => qN g x
def akd (t : Nat) : Nat := if t = 2 then 1 else if t = 5 then 2 else 0
def kdT : List (List Nat) := [[2, 0, 0, 2, 2, 2, 2, 2, 2], [2, 0, 2, 0], [2, 0, 0, 2, 2, 2], [2, 0, 2, 0], [0, 0, 2, 0, 2, 0, 0, 0, 0, 1], [0, 2, 2, 2, 0, 2, 2, 2, 2, 0], [2, 2, 2, 0, 2, 2, 2], [2, 2, 2, 2], [0, 0, 0, 2, 2, 2, 0, 0], [2, 0, 2, 2, 2, 2, 2, 2, 2, 2, 2, 2, 2, 2, 0, 0, 0], [0, 0, 0, 0, 0, 0, 0, 2, 2, 2, 2, 2, 2, 2, 2, 2], [0, 0, 0, 2, 2, 2, 0, 0, 0, 0, 0, 0, 0, 0, 0, 0, 1, 2, 2, 2, 0, 0, 2, 2, 2, 2, 0, 2, 2, 0, 2, 2, 2, 2, 2, 2, 0, 2, 2, 2, 2]]
def kd (ci k : Nat) : Nat := (kdT.getD ci []).getD k 0
def nfd (ci : Nat) : Nat := (kdT.getD ci []).length
def zTy (g : zGeo) : List (ClassId × FieldType) := [(g.2.1 1, .int), (g.2.1 2, .long), (g.2.1 3, .byte), (g.2.1 4, .boolean), (g.2.1 5, .object "NineMaps$World")]
/-- a cell of ours -/
def zAt (g : zGeo) (h : Hp) (a : Int) (H : Heap) : Prop :=
  (hT h a < 10 → 0 ≤ hL h a ∧ H[zb g + a.toNat]? = some (arrV (g.2.1 (hT h a)) (hL h a).toNat (fun j => fv (akd (hT h a)) g (hM h a j)))) ∧
  (10 ≤ hT h a → t_OB (zb g + a.toNat) (g.1.1 (hT h a - 10)) (nfd (hT h a - 10)) (g.1.2 (hT h a - 10)) H (fun j => fv (kd (hT h a - 10) j) g (hM h a j)))
/-- the heap holds the memory -/
def zHp (g : zGeo) (h : Hp) (H : Heap) : Prop := H.size = zb g + (hX h).toNat ∧ 0 ≤ hX h ∧ ∀ a : Int, hT h a ≠ 0 → 0 ≤ a ∧ a < hX h ∧ zAt g h a H
abbrev zA (g : zGeo) : Nat → Prop := fun q => zb g ≤ q
def zH (g : zGeo) (s : State) (h : Hp) (H : Heap) (locs : List Loc) : Prop := zHp g h H ∧ va_S (zA g) s.heap H locs
theorem w32_of {x : Int} (h1 : -2147483648 ≤ x) (h2 : x ≤ 2147483647) : w32 x = x := by
  unfold w32
  exact Int32.toInt_ofInt_of_le (by omega) (by omega)
theorem w32_ofInt (x : Int) : Int32.ofInt (w32 x) = Int32.ofInt x := by
  unfold w32; exact Int32.ofInt_toInt _
theorem w64_ofInt (x : Int) : Int64.ofInt (w64 x) = Int64.ofInt x := by
  unfold w64; exact Int64.ofInt_toInt _
theorem w64_of {x : Int} (h1 : -9223372036854775808 ≤ x) (h2 : x ≤ 9223372036854775807) : w64 x = x := by
  unfold w64
  exact Int64.toInt_ofInt_of_le (by omega) (by omega)
theorem w32_lo (x : Int) : -2147483648 ≤ w32 x := by
  unfold w32; have := Int32.minValue_le_toInt (Int32.ofInt x); simpa using this
theorem w32_hi (x : Int) : w32 x ≤ 2147483647 := by
  unfold w32; have h : Int32.maxValue.toInt = 2147483647 := by decide
  have h2 := Int32.toInt_le (Int32.ofInt x); rw [h] at h2; exact h2
theorem w32_w32 (x : Int) : w32 (w32 x) = w32 x := w32_of (w32_lo x) (w32_hi x)
theorem w32_lt (x y : Int) : Int32.ofInt x < Int32.ofInt y ↔ w32 x < w32 y := Int32.lt_iff_toInt_lt
theorem w32_le (x y : Int) : Int32.ofInt x ≤ Int32.ofInt y ↔ w32 x ≤ w32 y := Int32.le_iff_toInt_le
theorem w32_eq (x y : Int) : Int32.ofInt x = Int32.ofInt y ↔ w32 x = w32 y := Int32.toInt_inj.symm
theorem w64_eq (x y : Int) : Int64.ofInt x = Int64.ofInt y ↔ w64 x = w64 y := Int64.toInt_inj.symm
theorem w64_lt (x y : Int) : Int64.ofInt x < Int64.ofInt y ↔ w64 x < w64 y := Int64.lt_iff_toInt_lt
theorem zx_in {i n : Int} (h0 : 0 ≤ w32 i) (h1 : w32 i < n) : vp_in (Int32.ofInt i) n.toNat ∧ ((Int32.ofInt i).toNatClampNeg : Int) = w32 i := by
  refine ⟨vp_in_iff.mpr ⟨h0, ?_⟩, ?_⟩
  · show w32 i < (n.toNat : Int); omega
  · show (((w32 i).toNat : Nat) : Int) = w32 i; omega
/-- links of nest mates -/
def zNest : List Cond := [(Jvm.Cond.methodLinkNest "NineMaps" (19 : Nat) ({ cls := "NineMaps$Ring", name := "<init>", desc := "()V" } : Jvm.MethodName) "NineMaps"), (Jvm.Cond.methodLinkNest "NineMaps$Ring" (17 : Nat) ({ cls := "NineMaps$World", name := "<init>", desc := "()V" } : Jvm.MethodName) "NineMaps"), (Jvm.Cond.methodLinkNest "NineMaps" (29 : Nat) ({ cls := "NineMaps$World", name := "<init>", desc := "()V" } : Jvm.MethodName) "NineMaps"), (Jvm.Cond.methodLinkNest "NineMaps$Past" (27 : Nat) ({ cls := "NineMaps$World", name := "<init>", desc := "()V" } : Jvm.MethodName) "NineMaps"), (Jvm.Cond.fieldLinkNest "NineMaps$Trials" (62 : Nat) "NineMaps$Chain" "world" "LNineMaps$World;" "NineMaps"), (Jvm.Cond.fieldLinkNest "NineMaps$Trials" (48 : Nat) "NineMaps$Chain" "last" "I" "NineMaps"), (Jvm.Cond.fieldLinkNest "NineMaps$Trials" (31 : Nat) "NineMaps$Chain" "begin" "I" "NineMaps"), (Jvm.Cond.fieldLinkNest "NineMaps$Trials" (59 : Nat) "NineMaps$Chain" "towns" "[I" "NineMaps"), (Jvm.Cond.fieldLinkNest "NineMaps$Trials" (35 : Nat) "NineMaps$Chain" "places" "[I" "NineMaps"), (Jvm.Cond.fieldLinkNest "NineMaps$Trials" (25 : Nat) "NineMaps$Chain" "counts" "[I" "NineMaps"), (Jvm.Cond.methodLinkNest "NineMaps" (74 : Nat) ({ cls := "NineMaps$Ground", name := "<init>", desc := "()V" } : Jvm.MethodName) "NineMaps"), (Jvm.Cond.methodLinkNest "NineMapsModel" (337 : Nat) ({ cls := "NineMapsModel$Ring", name := "<init>", desc := "()V" } : Jvm.MethodName) "NineMapsModel"), (Jvm.Cond.fieldLinkNest "NineMapsModel" (194 : Nat) "NineMapsModel$Ring" "wide" "I" "NineMapsModel"), (Jvm.Cond.fieldLinkNest "NineMapsModel" (256 : Nat) "NineMapsModel$Ring" "high" "I" "NineMapsModel"), (Jvm.Cond.fieldLinkNest "NineMapsModel" (215 : Nat) "NineMapsModel$Ring" "marks" "I" "NineMapsModel"), (Jvm.Cond.fieldLinkNest "NineMapsModel" (230 : Nat) "NineMapsModel$Ring" "towns" "I" "NineMapsModel"), (Jvm.Cond.fieldLinkNest "NineMapsModel" (314 : Nat) "NineMapsModel$Ring" "guesses" "I" "NineMapsModel"), (Jvm.Cond.fieldLinkNest "NineMapsModel" (319 : Nat) "NineMapsModel$Ring" "sights" "I" "NineMapsModel"), (Jvm.Cond.fieldLinkNest "NineMapsModel" (302 : Nat) "NineMapsModel$Ring" "unknown" "I" "NineMapsModel"), (Jvm.Cond.fieldLinkNest "NineMapsModel" (262 : Nat) "NineMapsModel$Ring" "map" "[I" "NineMapsModel"), (Jvm.Cond.fieldLinkNest "NineMapsModel" (268 : Nat) "NineMapsModel$Ring" "copies" "[I" "NineMapsModel"), (Jvm.Cond.fieldLinkNest "NineMapsModel" (270 : Nat) "NineMapsModel$Ring" "error" "[I" "NineMapsModel"), (Jvm.Cond.fieldLinkNest "NineMapsModel" (317 : Nat) "NineMapsModel$Ring" "guess" "[I" "NineMapsModel"), (Jvm.Cond.fieldLinkNest "NineMapsModel" (322 : Nat) "NineMapsModel$Ring" "seenOf" "[I" "NineMapsModel"), (Jvm.Cond.fieldLinkNest "NineMapsModel" (325 : Nat) "NineMapsModel$Ring" "seenBehind" "[I" "NineMapsModel"), (Jvm.Cond.fieldLinkNest "NineMapsModel" (328 : Nat) "NineMapsModel$Ring" "seenAt" "[I" "NineMapsModel"), (Jvm.Cond.fieldLinkNest "NineMapsModel" (331 : Nat) "NineMapsModel$Ring" "seenMark" "[I" "NineMapsModel"), (Jvm.Cond.fieldLinkNest "NineMapsModel" (265 : Nat) "NineMapsModel$Ring" "name" "[J" "NineMapsModel")]
def isNest : Cond → Bool
  | .fieldLinkNest _ _ _ _ _ _ => true
  | .methodLinkNest _ _ _ _ => true
  | _ => false
theorem zNest_all : ∀ w ∈ zNest, isNest w = true := by decide +kernel
theorem isNest_on {w : Cond} (h : isNest w = true) : w.onTables = true := by
  cases w <;> first | rfl | cases h
theorem isNest_warm {w : Cond} (h : isNest w = true) {s U : State} (hW : s.WarmedH U.vm) (hZ : va_Nw w s) : va_Nw w U := by
  cases w <;> first | exact va_Nw.warmF hW hZ | exact va_Nw.warmM hW hZ | cases h
/-- the texts: their signs; where they are loaded -/
def sTx : List (List Int) := [[114, 105, 110, 103], [116, 111, 119, 110], [99, 111, 112, 105, 101, 115], [103, 117, 101, 115, 115], [115, 101, 101, 110], [119, 105, 100, 101], [104, 105, 103, 104], [109, 97, 114, 107, 115], [98, 121], [116, 114, 117, 101], [98, 108, 111, 116], [102, 111, 108, 100], [115, 104, 105, 102, 116], [116, 117, 114, 110], [115, 119, 97, 112], [115, 116, 97, 105, 110], [101, 114, 97, 115, 101], [115, 116, 114, 101, 116, 99, 104], [115, 110, 101, 101, 122, 101], [117, 110, 107, 110, 111, 119, 110], [109, 120, 121], [102], [115, 115], [109, 111], [109], [116], []]
def zStr : List (String × Nat × String × Nat) := [("NineMaps$Reader", 128, "ring", 0), ("NineMaps$Reader", 130, "town", 1), ("NineMaps$Reader", 132, "copies", 2), ("NineMaps$Reader", 134, "guess", 3), ("NineMaps$Reader", 136, "seen", 4), ("NineMaps$Reader", 147, "wide", 5), ("NineMaps$Reader", 155, "high", 6), ("NineMaps$Reader", 157, "marks", 7), ("NineMaps$Reader", 119, "by", 8), ("NineMaps$Reader", 213, "true", 9), ("NineMaps$Reader", 215, "blot", 10), ("NineMaps$Reader", 217, "fold", 11), ("NineMaps$Reader", 219, "shift", 12), ("NineMaps$Reader", 221, "turn", 13), ("NineMaps$Reader", 223, "swap", 14), ("NineMaps$Reader", 225, "stain", 15), ("NineMaps$Reader", 227, "erase", 16), ("NineMaps$Reader", 229, "stretch", 17), ("NineMaps$Reader", 231, "sneeze", 18), ("NineMaps$Reader", 233, "unknown", 19), ("NineMaps$Reader", 235, "mxy", 20), ("NineMaps$Reader", 237, "f", 21), ("NineMaps$Reader", 239, "ss", 22), ("NineMaps$Reader", 241, "mo", 23), ("NineMaps$Reader", 243, "m", 24), ("NineMaps$Reader", 245, "t", 25), ("NineMaps$Reader", 247, "", 26), ("NineMapsModel", 178, "ring", 0), ("NineMapsModel", 248, "wide", 5), ("NineMapsModel", 253, "high", 6), ("NineMapsModel", 255, "marks", 7), ("NineMapsModel", 180, "town", 1), ("NineMapsModel", 182, "copies", 2), ("NineMapsModel", 184, "guess", 3), ("NineMapsModel", 186, "seen", 4), ("NineMapsModel", 188, "by", 8), ("NineMapsModel", 277, "true", 9), ("NineMapsModel", 279, "blot", 10), ("NineMapsModel", 281, "fold", 11), ("NineMapsModel", 283, "shift", 12), ("NineMapsModel", 285, "turn", 13), ("NineMapsModel", 287, "swap", 14), ("NineMapsModel", 289, "stain", 15), ("NineMapsModel", 291, "erase", 16), ("NineMapsModel", 293, "stretch", 17), ("NineMapsModel", 295, "sneeze", 18), ("NineMapsModel", 297, "unknown", 19)]
def nJS : Nat := 27
def slen (i : Int) : Int := ((sTx.getD i.toNat []).length : Int)
def sch (i k : Int) : Int := (sTx.getD i.toNat []).getD k.toNat 0
def zSt (g : zGeo) (U : State) (H : Heap) : Prop := ∀ i : Nat, i < nJS → va_O "java/lang/String" (g.2.2.1 i) (zA g) U H ∧ va_OF "java/lang/String" "coder" "B" (.int 0) (g.2.2.1 i) (zA g) U H ∧ va_OF "java/lang/String" "value" "[B" (.ref (g.2.2.2.1 i)) (g.2.2.1 i) (zA g) U H ∧ va_T .byte (g.2.2.2.1 i) (sTx.getD i []).length (fun j => .int (Int32.ofInt ((sTx.getD i []).getD j 0))) (zA g) U H
/-- what holds of the tables and of the constants at every method's start -/
def zU (g : zGeo) (U : State) : Prop := va_K g.1 vwCl (zTy g) U ∧ (∀ w ∈ zNest, va_Nw w U) ∧ (∀ q ∈ zStr, vk_R q.1 q.2.1 q.2.2.1 (g.2.2.1 q.2.2.2) U) ∧ zSt g U U.heap ∧ va_AO "NineMaps$World" U ∧ zb g ≤ U.heap.size ∧ va_Z "java/lang/String" "COMPACT_STRINGS" "Z" (.int 1) (zA g) U U.heap ∧ va_Zq "jdk/internal/util/Preconditions" "SIOOBE_FORMATTER" "Ljava/util/function/BiFunction;" (zA g) U U.heap
theorem zU.go {g : zGeo} {s U : State} {H : Heap} {locs : List Loc} (hz : zU g s) (hS : va_S (zA g) s.heap H locs) (hU : U.heap = H) (hW : s.WarmedH U.vm) : zU g U := by
  obtain ⟨h1, h2, h3, h4, h5, h6, h7, h8⟩ := hz
  have hvm := hW.alike
  refine ⟨h1.moved hvm, fun w hw => isNest_warm (zNest_all w hw) hW (h2 w hw), fun q hq => vk_R.warm hW (h3 q hq), fun i hi => ?_, va_AO.moved hvm h5, ?_, ?_, ?_⟩
  · obtain ⟨a, b, c, d⟩ := h4 i hi
    rw [hU]
    exact ⟨(a.moved hvm).kept hS.2.1, (b.moved hvm).kept hS.2.1, (c.moved hvm).kept hS.2.1, (d.moved hvm).kept hS.2.1⟩
  · rw [hU]; exact Nat.le_trans h6 hS.1
  · rw [hU]; exact (h7.moved hvm).kept hS.2.1
  · rw [hU]; exact (h8.moved hvm).kept hS.2.1
theorem zU.blind {g : zGeo} {U : State} (f : JFrame) (mk : MethodId) (a : Array Value) (hz : zU g U) : zU g (U.calling f mk a) := by
  obtain ⟨h1, h2, h3, h4, h5, h6, h7, h8⟩ := hz
  have e : (U.calling f mk a).vm = U.vm := rfl
  exact ⟨h1.moved (Vm.Alike.refl U.vm), fun w hw => va_Nw.same (isNest_on (zNest_all w hw)) e.symm (h2 w hw), fun q hq => vk_R.same e (h3 q hq), fun i hi => ⟨(h4 i hi).1.moved (Vm.Alike.refl U.vm), (h4 i hi).2.1.moved (Vm.Alike.refl U.vm), (h4 i hi).2.2.1.moved (Vm.Alike.refl U.vm), (h4 i hi).2.2.2.moved (Vm.Alike.refl U.vm)⟩, va_AO.moved (Vm.Alike.refl U.vm) h5, h6, h7.moved (Vm.Alike.refl U.vm), h8.moved (Vm.Alike.refl U.vm)⟩
def zC (p : Program) (m : MethodId) (c : Code) (cc : ByteArray) (nL : Nat) (s : State) (args : Array Value) (own : String) (g : zGeo) : Prop := CallFix p m c cc nL s args TW own ∧ zU g s
def zQc (g : zGeo) (h' : Hp) (o : Option Value) : Array Value → State → Outcome → State → Prop := fun _ st oc t => oc = .returned o ∧ zHp g h' t.heap ∧ va_F (zA g) st t
/-- a method's contract: from the memory h with these arguments to the memory h' with this answer -/
def zM (l : Launch) (y : MethodName) (cc : ByteArray) (nL : Nat) (ret : Option FieldType) (fr lo mc ms : Nat) (g : zGeo) (h : Hp) (vs : List Value) (h' : Hp) (o : Option Value) : Prop :=
  Met l y (Cond.code y cc nL ret :: TW) { frames := fr, cells := mc, slots := ms, locals := lo } (va_Pc vs (fun U => zU g U ∧ zHp g h U.heap)) (zQc g h' o) mc ms (zA g)
abbrev zQ (below : List Frame) (g : zGeo) (h' : Hp) (o : Option Value) (args : Array Value) (s : State) (mc ms : Nat) : State → Prop := MQ below (zQc g h' o) args s mc ms (zA g)
theorem z_meth {l : Launch} {y : MethodName} {cc : ByteArray} {nL : Nat} {ret : Option FieldType} {fr lo mc ms : Nat} {g : zGeo} {h : Hp} {vs : List Value} {h' : Hp} {o : Option Value} (hy : plainName y.cls = true) (hlen : (lg_sl vs).length ≤ nL)
    (body : ∀ (p : Program) (e : Env) (s : State) (m : MethodId) (args : Array Value) (below : List Frame) (meth : Method) (c : Code) (H : Heap) (ls : Array Slot), zC p m c cc nL s args y.cls g → meth.sig.returnType = ret → meth.locks = false → meth.name = y.name → zH g s h H [] → lv_has ls nL (lv_args 0 vs) →
      W p l e { frames := fr, cells := mc, slots := ms, locals := lo } s m args below meth c H [] 0 0 (zQ below g h' o args s mc ms) (F0 m 0 ls [])) : zM l y cc nL ret fr lo mc ms g h vs h' o := by
  refine Met.ofW (cc := cc) (maxL := nL) (ret := ret) hy rfl ?_
  intro p e s m args below meth c s₁ B hml hv
  obtain ⟨rfl, hu, hp⟩ := hv
  have hts := atoms_spec (ws := Cond.code y cc nL ret :: TW) B.pre
  have hl := lv_entry vs (n := nL) hlen
  rw [lg_entry_eq]
  exact body p e s m _ below meth c s.heap _ ⟨⟨B.exec, B.bytes, hml, findClass_of_methodNamed B.named, fun w hw => hts w (List.mem_cons_of_mem _ hw)⟩, hu⟩ B.returns B.notSynchronized (name_of_methodNamed B.named B.method).1 ⟨hp, va_S.rf⟩ hl
