/-! the small machine: values, memory, layout -/
abbrev mm_V : Type := (Nat × Nat) ⊕ Value
abbrev mm_L : Type := List (Nat × mm_V)
abbrev mm_M : Type := (Nat → Nat) × (Nat → Nat → Int32) × (Nat → Nat → Int64) × (Nat → Nat → UInt32) × (Nat → Nat → UInt64) × (Nat → Nat → Option Nat) × Nat × Nat
abbrev mm_X : Type := Nat × Nat × Nat × Nat × Nat
abbrev mm_E : Type := Nat × Instr × Nat × mm_X × List Nat
abbrev mm_Y : Type := String × MethodName × ByteArray × Nat × Option FieldType × Nat × Nat × List mm_E
abbrev mm_R : Type := Option Nat × mm_L × List mm_V × mm_M × List Bool × List (Option Nat) × Option Prop
abbrev vi (x : Int32) : mm_V := .inr (.int x)
abbrev vl (x : Int64) : mm_V := .inr (.long x)
abbrev vf (x : UInt32) : mm_V := .inr (.float x)
abbrev vd (x : UInt64) : mm_V := .inr (.double x)
abbrev vn : mm_V := .inr .null
abbrev vr (k n : Nat) : mm_V := .inl (k, n)
def mm_ow (Y : mm_Y) : String := Y.1
def mm_nm (Y : mm_Y) : MethodName := Y.2.1
def mm_by (Y : mm_Y) : ByteArray := Y.2.2.1
def mm_ml (Y : mm_Y) : Nat := Y.2.2.2.1
def mm_re (Y : mm_Y) : Option FieldType := Y.2.2.2.2.1
def mm_fr (Y : mm_Y) : Nat := Y.2.2.2.2.2.1
def mm_lo (Y : mm_Y) : Nat := Y.2.2.2.2.2.2.1
def mm_co (Y : mm_Y) : List mm_E := Y.2.2.2.2.2.2.2
def mm_nth {α : Type} : List α → Nat → Option α
  | [], _ => none
  | a :: _, 0 => some a
  | _ :: l, n + 1 => mm_nth l n
def mm_get : mm_L → Nat → Option mm_V
  | [], _ => none
  | (j, v) :: l, k => match Nat.beq j k with
    | true => some v
    | false => mm_get l k
def mm_c2 : mm_V → Bool
  | .inr (.long _) => true
  | .inr (.double _) => true
  | _ => false
def mm_flt : mm_L → Nat → Option mm_L
  | [], _ => some []
  | (j, v) :: l, k => match Nat.beq j k || (Nat.beq (j + 1) k && mm_c2 v) with
    | true => mm_flt l k
    | false => match mm_flt l k with
      | some l' => some ((j, v) :: l')
      | none => none
def mm_del : mm_L → Nat → Option mm_L
  | [], _ => some []
  | (j, v) :: l, k => match Nat.beq j k with
    | true => mm_del l k
    | false => match mm_del l k with
      | some l' => some ((j, v) :: l')
      | none => none
def mm_ins : mm_L → Nat → mm_V → Option mm_L
  | [], k, v => some [(k, v)]
  | (j, u) :: l, k, v => match Nat.ble j k with
    | true => match mm_ins l k v with
      | some l' => some ((j, u) :: l')
      | none => none
    | false => some ((k, v) :: (j, u) :: l)
def mm_set1 (L : mm_L) (k : Nat) (v : mm_V) : Option mm_L := match mm_flt L k with
  | some L1 => mm_ins L1 k v
  | none => none
def mm_set2 (L : mm_L) (k : Nat) (v : mm_V) : Option mm_L := match mm_flt L k with
  | some L1 => match mm_del L1 (k + 1) with
    | some L2 => mm_ins L2 k v
    | none => none
  | none => none
def mm_up {α : Type} (f : Nat → Nat → α) (n k : Nat) (v : α) : Nat → Nat → α := fun a j => if a = n ∧ j = k then v else f a j
def mm_cl {α : Type} (f : Nat → Nat → α) (n : Nat) (v : α) : Nat → Nat → α := fun a j => if a = n then v else f a j
def mm_uk (f : Nat → Nat) (n v : Nat) : Nat → Nat := fun a => if a = n then v else f a
def mm_to : List mm_E → Nat → List mm_E
  | [], _ => []
  | e :: l, pc => match Nat.beq e.1 pc with
    | true => e :: l
    | false => mm_to l pc
def mm_iv : Int → Int32
  | .ofNat k => nI k
  | .negSucc k => -(nI (k + 1))
-- kinds of arrays: element type, length
def mm_kas : List (Nat × Nat) := [(0, 160), (0, 24), (1, 8), (3, 4), (2, 4), (7, 8), (5, 8), (0, 8), (1, 12), (3, 12), (7, 12), (7, 160), (3, 10), (5, 6), (6, 3), (1, 1920), (3, 1920), (1, 160), (3, 160), (0, 480), (0, 6), (0, 240), (0, 36), (1, 24), (4, 3), (0, 3)]
def mm_ka (kd : Nat) : Option (Nat × Nat) := match Nat.ble 40 kd with
  | true => mm_nth mm_kas (kd - 40)
  | false => none
def mm_kc (kd : Nat) : Option Nat := match Nat.ble 1 kd && Nat.ble kd 11 with
  | true => some (kd - 1)
  | false => match Nat.ble 21 kd && Nat.ble kd 31 with
    | true => some (kd - 21)
    | false => none
-- fields of a class: type code (0 int 1 long 2 float 3 double 4 reference 5 reference at an offset 6 reference at a fixed number), kind, offset or number
def mm_fts : List (List (Nat × Nat × Nat)) := [[(6, 7, 9)], [(6, 53, 7), (6, 3, 54), (6, 1, 55), (6, 4, 13)], [(6, 6, 11)], [(6, 6, 11), (0, 0, 0)], [(0, 0, 0), (0, 0, 0), (0, 0, 0), (5, 40, 1), (5, 41, 2)], [(6, 52, 12)], [(6, 51, 10), (0, 0, 0)], [(0, 0, 0), (5, 42, 1), (5, 43, 2), (5, 44, 3), (5, 45, 4), (5, 46, 5), (5, 47, 6), (0, 0, 0), (0, 0, 0), (0, 0, 0), (0, 0, 0), (0, 0, 0), (0, 0, 0), (0, 0, 0), (4, 9, 0)], [(0, 0, 0), (0, 0, 0), (0, 0, 0), (0, 0, 0), (0, 0, 0), (5, 48, 1), (5, 49, 2), (5, 50, 3), (1, 0, 0), (3, 0, 0), (2, 0, 0), (4, 9, 0), (4, 9, 0), (0, 0, 0), (0, 0, 0), (0, 0, 0), (0, 0, 0)], [(6, 53, 7), (6, 54, 8), (6, 7, 9), (6, 6, 11), (6, 4, 13), (6, 2, 53)], [(0, 0, 0), (6, 40, 7), (6, 40, 8), (6, 55, 9), (6, 56, 10), (6, 57, 11), (6, 58, 12), (6, 58, 13), (6, 40, 14), (6, 40, 15), (6, 40, 16), (6, 59, 17), (6, 40, 18), (6, 40, 19), (0, 0, 0), (6, 60, 20), (6, 61, 21), (6, 61, 22), (6, 61, 23), (6, 61, 24), (6, 60, 25), (6, 62, 26), (6, 62, 27), (6, 62, 28), (6, 62, 29), (6, 63, 30), (6, 49, 31), (6, 49, 32), (6, 41, 33), (6, 64, 34), (6, 65, 35), (6, 41, 36), (6, 41, 37), (6, 65, 38), (6, 65, 39), (6, 65, 40), (6, 65, 41), (6, 65, 42), (6, 65, 43), (0, 0, 0), (0, 0, 0), (0, 0, 0), (0, 0, 0), (0, 0, 0), (0, 0, 0)]]
def mm_ft (c k : Nat) : Nat × Nat × Nat := match mm_nth mm_fts c with
  | some l => (mm_nth l k).getD (9, 0, 0)
  | none => (9, 0, 0)
def mm_sls : List (List Int) := [[1, 0, 0, 2, 0, 7, 3, 0, 7, 1, 8, 1, 1, 8, 1, 2, 9, 2, 3, 9, 3, 2, 10, 2, 3, 10, 3, 1, 2, 2, 1, 3, 3, 19, 11, 19, 4, 0, 4, 4, 0, 0, 4, 12, 1, 4, 13, 1, 4, 1, 1, 4, 1, 1, 4, 13, 0, 20, 0, 0, 1, 4, 1, 1, 4, 1, 1, 4, 1, 1, 4, 1, 1, 4, 1, 1, 4, 1, 3, 4, 1, 2, 4, 1, 1, 4, 1, 1, 4, 1, 1, 4, 1, 1, 4, 1, 1, 4, 1, 1, 4, 1, 3, 4, 1, 2, 4, 1, 4, 4, 1, 4, 4, 1, 4, 4, 1, 4, 4, 1, 4, 4, 1, 4, 4, 1, 1, 4, 0, 1, 4, 1, 2, 4, 1, 1, 4, 1, 4, 4, 0, 4, 4, 0, 1, 4, 14, 4, 4, 14, 1, 4, 4, 19, 15, 4, 19, 16, 4, 1, 4, 1, 2, 4, 0, 1, 4, 0, 1, 4, 1, 2, 4, 0, 0, 17, 0, 5, 0, 0, 5, 1, 18, 5, 4, 0, 6, 0, 0, 0, 0, 0, 0, 4, 0, 0, 4, 0], [0, 0, 0, 0, 0, 0, 0, -60, 0, 0, 0, 0, 0, 0, 0, 0, 0, -1, 0, 0, 1], [0, 7, 3, 3, 7, 39, 5, 60, 11, 7, 5, 11, 7, 4, 25, 8, 8, 29, 3, 0, 0], [2, 1, 1, 3, 1, 1, 2, 3, 1, 1, 1, 1], [1, 2, 2, 1, 3, 3, 3, 2, 1, 1, 1, 1], [1, 2, 3, 4, 4, 1, 1, 1, 1]]
def mm_sl (j : Nat) : List Int := (mm_nth mm_sls j).getD []
def mm_sv (j i : Nat) : Int32 := mm_iv ((mm_nth (mm_sl j) i).getD 0)
def mm_sln : List Nat := [198, 21, 21, 12, 12, 9]
def mm_len (j : Nat) : Nat := (mm_nth mm_sln j).getD 0
def mm_cv (a b : Nat) : Int32 := match b with
  | 0 => nI a
  | _ => -(nI a)
def mm_hci (a b : Nat) (L : mm_L) (st : List mm_V) (μ : mm_M) (bs : List Bool) (os : List (Option Nat)) : Option mm_R :=
  match b with
  | 0 => some (none, L, vi (nI a) :: st, μ, bs, os, none)
  | _ => some (none, L, vi (-(nI a)) :: st, μ, bs, os, none)
def mm_hlc (n : Nat) (L : mm_L) (st : List mm_V) (μ : mm_M) (bs : List Bool) (os : List (Option Nat)) : Option mm_R :=
  match n with
  | 0 => some (none, L, vl (lN 0) :: st, μ, bs, os, none)
  | _ => some (none, L, vl (lN 1) :: st, μ, bs, os, none)
def mm_hdc (n : Nat) (L : mm_L) (st : List mm_V) (μ : mm_M) (bs : List Bool) (os : List (Option Nat)) : Option mm_R :=
  match n with
  | 0 => some (none, L, vd FP.dconst0 :: st, μ, bs, os, none)
  | _ => some (none, L, vd FP.dconst1 :: st, μ, bs, os, none)
def mm_hfc (n : Nat) (L : mm_L) (st : List mm_V) (μ : mm_M) (bs : List Bool) (os : List (Option Nat)) : Option mm_R :=
  match n with
  | 0 => some (none, L, vf FP.fconst0 :: st, μ, bs, os, none)
  | 1 => some (none, L, vf FP.fconst1 :: st, μ, bs, os, none)
  | _ => some (none, L, vf FP.fconst2 :: st, μ, bs, os, none)
def mm_hldc (v : Nat) (L : mm_L) (st : List mm_V) (μ : mm_M) (bs : List Bool) (os : List (Option Nat)) : Option mm_R :=
  some (none, L, vi (nI v) :: st, μ, bs, os, none)
def mm_hld2 (k v : Nat) (L : mm_L) (st : List mm_V) (μ : mm_M) (bs : List Bool) (os : List (Option Nat)) : Option mm_R :=
  match k with
  | 1 => some (none, L, vl (lN v) :: st, μ, bs, os, none)
  | 2 => some (none, L, vd (UInt64.ofNat v) :: st, μ, bs, os, none)
  | _ => none
def mm_hnull (L : mm_L) (st : List mm_V) (μ : mm_M) (bs : List Bool) (os : List (Option Nat)) : Option mm_R :=
  some (none, L, vn :: st, μ, bs, os, none)
def mm_hiload (k : Nat) (L : mm_L) (st : List mm_V) (μ : mm_M) (bs : List Bool) (os : List (Option Nat)) : Option mm_R :=
  match mm_get L k with
  | some (.inr (.int v)) => some (none, L, .inr (.int v) :: st, μ, bs, os, none)
  | _ => none
def mm_histore (k : Nat) (L : mm_L) (st : List mm_V) (μ : mm_M) (bs : List Bool) (os : List (Option Nat)) : Option mm_R :=
  match st with
  | .inr (.int v) :: r => match mm_set1 L k (.inr (.int v)) with
    | some L1 => some (none, L1, r, μ, bs, os, none)
    | none => none
  | _ => none
def mm_hlload (k : Nat) (L : mm_L) (st : List mm_V) (μ : mm_M) (bs : List Bool) (os : List (Option Nat)) : Option mm_R :=
  match mm_get L k with
  | some (.inr (.long v)) => some (none, L, .inr (.long v) :: st, μ, bs, os, none)
  | _ => none
def mm_hlstore (k : Nat) (L : mm_L) (st : List mm_V) (μ : mm_M) (bs : List Bool) (os : List (Option Nat)) : Option mm_R :=
  match st with
  | .inr (.long v) :: r => match mm_set2 L k (.inr (.long v)) with
    | some L1 => some (none, L1, r, μ, bs, os, none)
    | none => none
  | _ => none
def mm_hfload (k : Nat) (L : mm_L) (st : List mm_V) (μ : mm_M) (bs : List Bool) (os : List (Option Nat)) : Option mm_R :=
  match mm_get L k with
  | some (.inr (.float v)) => some (none, L, .inr (.float v) :: st, μ, bs, os, none)
  | _ => none
def mm_hfstore (k : Nat) (L : mm_L) (st : List mm_V) (μ : mm_M) (bs : List Bool) (os : List (Option Nat)) : Option mm_R :=
  match st with
  | .inr (.float v) :: r => match mm_set1 L k (.inr (.float v)) with
    | some L1 => some (none, L1, r, μ, bs, os, none)
    | none => none
  | _ => none
def mm_hdload (k : Nat) (L : mm_L) (st : List mm_V) (μ : mm_M) (bs : List Bool) (os : List (Option Nat)) : Option mm_R :=
  match mm_get L k with
  | some (.inr (.double v)) => some (none, L, .inr (.double v) :: st, μ, bs, os, none)
  | _ => none
def mm_hdstore (k : Nat) (L : mm_L) (st : List mm_V) (μ : mm_M) (bs : List Bool) (os : List (Option Nat)) : Option mm_R :=
  match st with
  | .inr (.double v) :: r => match mm_set2 L k (.inr (.double v)) with
    | some L1 => some (none, L1, r, μ, bs, os, none)
    | none => none
  | _ => none
def mm_haload (k : Nat) (L : mm_L) (st : List mm_V) (μ : mm_M) (bs : List Bool) (os : List (Option Nat)) : Option mm_R :=
  match mm_get L k with
  | some (.inl q) => some (none, L, .inl q :: st, μ, bs, os, none)
  | some (.inr .null) => some (none, L, vn :: st, μ, bs, os, none)
  | _ => none
def mm_hastore (k : Nat) (L : mm_L) (st : List mm_V) (μ : mm_M) (bs : List Bool) (os : List (Option Nat)) : Option mm_R :=
  match st with
  | .inl q :: r => match mm_set1 L k (.inl q) with
    | some L1 => some (none, L1, r, μ, bs, os, none)
    | none => none
  | .inr .null :: r => match mm_set1 L k vn with
    | some L1 => some (none, L1, r, μ, bs, os, none)
    | none => none
  | _ => none
def mm_hiinc (k a b : Nat) (L : mm_L) (st : List mm_V) (μ : mm_M) (bs : List Bool) (os : List (Option Nat)) : Option mm_R :=
  match mm_get L k with
  | some (.inr (.int v)) => match b with
    | 0 => match mm_set1 L k (vi (v + nI a)) with
      | some L1 => some (none, L1, st, μ, bs, os, none)
      | none => none
    | _ => match mm_set1 L k (vi (v - nI a)) with
      | some L1 => some (none, L1, st, μ, bs, os, none)
      | none => none
  | _ => none
def mm_hiadd (L : mm_L) (st : List mm_V) (μ : mm_M) (bs : List Bool) (os : List (Option Nat)) : Option mm_R :=
  match st with
  | .inr (.int y) :: .inr (.int x) :: r => some (none, L, .inr (.int (x + y)) :: r, μ, bs, os, none)
  | _ => none
def mm_hisub (L : mm_L) (st : List mm_V) (μ : mm_M) (bs : List Bool) (os : List (Option Nat)) : Option mm_R :=
  match st with
  | .inr (.int y) :: .inr (.int x) :: r => some (none, L, .inr (.int (x - y)) :: r, μ, bs, os, none)
  | _ => none
def mm_himul (L : mm_L) (st : List mm_V) (μ : mm_M) (bs : List Bool) (os : List (Option Nat)) : Option mm_R :=
  match st with
  | .inr (.int y) :: .inr (.int x) :: r => some (none, L, .inr (.int (x * y)) :: r, μ, bs, os, none)
  | _ => none
def mm_hiand (L : mm_L) (st : List mm_V) (μ : mm_M) (bs : List Bool) (os : List (Option Nat)) : Option mm_R :=
  match st with
  | .inr (.int y) :: .inr (.int x) :: r => some (none, L, .inr (.int (x &&& y)) :: r, μ, bs, os, none)
  | _ => none
def mm_hior (L : mm_L) (st : List mm_V) (μ : mm_M) (bs : List Bool) (os : List (Option Nat)) : Option mm_R :=
  match st with
  | .inr (.int y) :: .inr (.int x) :: r => some (none, L, .inr (.int (x ||| y)) :: r, μ, bs, os, none)
  | _ => none
def mm_hixor (L : mm_L) (st : List mm_V) (μ : mm_M) (bs : List Bool) (os : List (Option Nat)) : Option mm_R :=
  match st with
  | .inr (.int y) :: .inr (.int x) :: r => some (none, L, .inr (.int (x ^^^ y)) :: r, μ, bs, os, none)
  | _ => none
def mm_hishl (L : mm_L) (st : List mm_V) (μ : mm_M) (bs : List Bool) (os : List (Option Nat)) : Option mm_R :=
  match st with
  | .inr (.int y) :: .inr (.int x) :: r => some (none, L, .inr (.int (x <<< (y &&& 31))) :: r, μ, bs, os, none)
  | _ => none
def mm_hishr (L : mm_L) (st : List mm_V) (μ : mm_M) (bs : List Bool) (os : List (Option Nat)) : Option mm_R :=
  match st with
  | .inr (.int y) :: .inr (.int x) :: r => some (none, L, .inr (.int (x >>> (y &&& 31))) :: r, μ, bs, os, none)
  | _ => none
def mm_hiushr (L : mm_L) (st : List mm_V) (μ : mm_M) (bs : List Bool) (os : List (Option Nat)) : Option mm_R :=
  match st with
  | .inr (.int y) :: .inr (.int x) :: r => some (none, L, .inr (.int ((x.toUInt32 >>> (y.toUInt32 &&& Int32.toUInt32 31)).toInt32)) :: r, μ, bs, os, none)
  | _ => none
def mm_hidiv (L : mm_L) (st : List mm_V) (μ : mm_M) (bs : List Bool) (os : List (Option Nat)) : Option mm_R :=
  match st with
  | .inr (.int y) :: .inr (.int x) :: r => some (none, L, .inr (.int (x / y)) :: r, μ, bs, os, some (¬ y = 0))
  | _ => none
def mm_hirem (L : mm_L) (st : List mm_V) (μ : mm_M) (bs : List Bool) (os : List (Option Nat)) : Option mm_R :=
  match st with
  | .inr (.int y) :: .inr (.int x) :: r => some (none, L, .inr (.int (x - x / y * y)) :: r, μ, bs, os, some (¬ y = 0))
  | _ => none
def mm_hladd (L : mm_L) (st : List mm_V) (μ : mm_M) (bs : List Bool) (os : List (Option Nat)) : Option mm_R :=
  match st with
  | .inr (.long y) :: .inr (.long x) :: r => some (none, L, .inr (.long (x + y)) :: r, μ, bs, os, none)
  | _ => none
def mm_hlsub (L : mm_L) (st : List mm_V) (μ : mm_M) (bs : List Bool) (os : List (Option Nat)) : Option mm_R :=
  match st with
  | .inr (.long y) :: .inr (.long x) :: r => some (none, L, .inr (.long (x - y)) :: r, μ, bs, os, none)
  | _ => none
def mm_hlmul (L : mm_L) (st : List mm_V) (μ : mm_M) (bs : List Bool) (os : List (Option Nat)) : Option mm_R :=
  match st with
  | .inr (.long y) :: .inr (.long x) :: r => some (none, L, .inr (.long (x * y)) :: r, μ, bs, os, none)
  | _ => none
def mm_hland (L : mm_L) (st : List mm_V) (μ : mm_M) (bs : List Bool) (os : List (Option Nat)) : Option mm_R :=
  match st with
  | .inr (.long y) :: .inr (.long x) :: r => some (none, L, .inr (.long (x &&& y)) :: r, μ, bs, os, none)
  | _ => none
def mm_hlor (L : mm_L) (st : List mm_V) (μ : mm_M) (bs : List Bool) (os : List (Option Nat)) : Option mm_R :=
  match st with
  | .inr (.long y) :: .inr (.long x) :: r => some (none, L, .inr (.long (x ||| y)) :: r, μ, bs, os, none)
  | _ => none
def mm_hlxor (L : mm_L) (st : List mm_V) (μ : mm_M) (bs : List Bool) (os : List (Option Nat)) : Option mm_R :=
  match st with
  | .inr (.long y) :: .inr (.long x) :: r => some (none, L, .inr (.long (x ^^^ y)) :: r, μ, bs, os, none)
  | _ => none
def mm_hldiv (L : mm_L) (st : List mm_V) (μ : mm_M) (bs : List Bool) (os : List (Option Nat)) : Option mm_R :=
  match st with
  | .inr (.long y) :: .inr (.long x) :: r => some (none, L, .inr (.long (x / y)) :: r, μ, bs, os, some (¬ y = 0))
  | _ => none
def mm_hlrem (L : mm_L) (st : List mm_V) (μ : mm_M) (bs : List Bool) (os : List (Option Nat)) : Option mm_R :=
  match st with
  | .inr (.long y) :: .inr (.long x) :: r => some (none, L, .inr (.long (x - x / y * y)) :: r, μ, bs, os, some (¬ y = 0))
  | _ => none
def mm_hlshl (L : mm_L) (st : List mm_V) (μ : mm_M) (bs : List Bool) (os : List (Option Nat)) : Option mm_R :=
  match st with
  | .inr (.int y) :: .inr (.long x) :: r => some (none, L, .inr (.long (x <<< (y.toInt64 &&& 63))) :: r, μ, bs, os, none)
  | _ => none
def mm_hlshr (L : mm_L) (st : List mm_V) (μ : mm_M) (bs : List Bool) (os : List (Option Nat)) : Option mm_R :=
  match st with
  | .inr (.int y) :: .inr (.long x) :: r => some (none, L, .inr (.long (x >>> (y.toInt64 &&& 63))) :: r, μ, bs, os, none)
  | _ => none
def mm_hlushr (L : mm_L) (st : List mm_V) (μ : mm_M) (bs : List Bool) (os : List (Option Nat)) : Option mm_R :=
  match st with
  | .inr (.int y) :: .inr (.long x) :: r => some (none, L, .inr (.long ((x.toUInt64 >>> (y.toInt64.toUInt64 &&& Int64.toUInt64 63)).toInt64)) :: r, μ, bs, os, none)
  | _ => none
def mm_hineg (L : mm_L) (st : List mm_V) (μ : mm_M) (bs : List Bool) (os : List (Option Nat)) : Option mm_R :=
  match st with
  | .inr (.int x) :: r => some (none, L, .inr (.int (-x)) :: r, μ, bs, os, none)
  | _ => none
def mm_hi2l (L : mm_L) (st : List mm_V) (μ : mm_M) (bs : List Bool) (os : List (Option Nat)) : Option mm_R :=
  match st with
  | .inr (.int x) :: r => some (none, L, .inr (.long (x.toInt64)) :: r, μ, bs, os, none)
  | _ => none
def mm_hl2i (L : mm_L) (st : List mm_V) (μ : mm_M) (bs : List Bool) (os : List (Option Nat)) : Option mm_R :=
  match st with
  | .inr (.long x) :: r => some (none, L, .inr (.int (x.toInt32)) :: r, μ, bs, os, none)
  | _ => none
def mm_hi2b (L : mm_L) (st : List mm_V) (μ : mm_M) (bs : List Bool) (os : List (Option Nat)) : Option mm_R :=
  match st with
  | .inr (.int x) :: r => some (none, L, .inr (.int (x.toInt8.toInt32)) :: r, μ, bs, os, none)
  | _ => none
def mm_hi2s (L : mm_L) (st : List mm_V) (μ : mm_M) (bs : List Bool) (os : List (Option Nat)) : Option mm_R :=
  match st with
  | .inr (.int x) :: r => some (none, L, .inr (.int (x.toInt16.toInt32)) :: r, μ, bs, os, none)
  | _ => none
def mm_hi2c (L : mm_L) (st : List mm_V) (μ : mm_M) (bs : List Bool) (os : List (Option Nat)) : Option mm_R :=
  match st with
  | .inr (.int x) :: r => some (none, L, .inr (.int ((x.toUInt32 % 65536).toInt32)) :: r, μ, bs, os, none)
  | _ => none
def mm_hfadd (L : mm_L) (st : List mm_V) (μ : mm_M) (bs : List Bool) (os : List (Option Nat)) : Option mm_R :=
  match st with
  | .inr (.float y) :: .inr (.float x) :: r => some (none, L, .inr (.float (FP.fadd x y)) :: r, μ, bs, os, some (vf_n32 (FP.fadd x y)))
  | _ => none
def mm_hfsub (L : mm_L) (st : List mm_V) (μ : mm_M) (bs : List Bool) (os : List (Option Nat)) : Option mm_R :=
  match st with
  | .inr (.float y) :: .inr (.float x) :: r => some (none, L, .inr (.float (FP.fsub x y)) :: r, μ, bs, os, some (vf_n32 (FP.fsub x y)))
  | _ => none
def mm_hfmul (L : mm_L) (st : List mm_V) (μ : mm_M) (bs : List Bool) (os : List (Option Nat)) : Option mm_R :=
  match st with
  | .inr (.float y) :: .inr (.float x) :: r => some (none, L, .inr (.float (FP.fmul x y)) :: r, μ, bs, os, some (vf_n32 (FP.fmul x y)))
  | _ => none
def mm_hfdiv (L : mm_L) (st : List mm_V) (μ : mm_M) (bs : List Bool) (os : List (Option Nat)) : Option mm_R :=
  match st with
  | .inr (.float y) :: .inr (.float x) :: r => some (none, L, .inr (.float (FP.fdiv x y)) :: r, μ, bs, os, some (vf_n32 (FP.fdiv x y)))
  | _ => none
def mm_hfrem (L : mm_L) (st : List mm_V) (μ : mm_M) (bs : List Bool) (os : List (Option Nat)) : Option mm_R :=
  match st with
  | .inr (.float y) :: .inr (.float x) :: r => some (none, L, .inr (.float (FP.frem x y)) :: r, μ, bs, os, some (vf_n32 (FP.frem x y)))
  | _ => none
def mm_hdadd (L : mm_L) (st : List mm_V) (μ : mm_M) (bs : List Bool) (os : List (Option Nat)) : Option mm_R :=
  match st with
  | .inr (.double y) :: .inr (.double x) :: r => some (none, L, .inr (.double (FP.dadd x y)) :: r, μ, bs, os, some (vf_n64 (FP.dadd x y)))
  | _ => none
def mm_hdsub (L : mm_L) (st : List mm_V) (μ : mm_M) (bs : List Bool) (os : List (Option Nat)) : Option mm_R :=
  match st with
  | .inr (.double y) :: .inr (.double x) :: r => some (none, L, .inr (.double (FP.dsub x y)) :: r, μ, bs, os, some (vf_n64 (FP.dsub x y)))
  | _ => none
def mm_hdmul (L : mm_L) (st : List mm_V) (μ : mm_M) (bs : List Bool) (os : List (Option Nat)) : Option mm_R :=
  match st with
  | .inr (.double y) :: .inr (.double x) :: r => some (none, L, .inr (.double (FP.dmul x y)) :: r, μ, bs, os, some (vf_n64 (FP.dmul x y)))
  | _ => none
def mm_hddiv (L : mm_L) (st : List mm_V) (μ : mm_M) (bs : List Bool) (os : List (Option Nat)) : Option mm_R :=
  match st with
  | .inr (.double y) :: .inr (.double x) :: r => some (none, L, .inr (.double (FP.ddiv x y)) :: r, μ, bs, os, some (vf_n64 (FP.ddiv x y)))
  | _ => none
def mm_hdrem (L : mm_L) (st : List mm_V) (μ : mm_M) (bs : List Bool) (os : List (Option Nat)) : Option mm_R :=
  match st with
  | .inr (.double y) :: .inr (.double x) :: r => some (none, L, .inr (.double (FP.drem x y)) :: r, μ, bs, os, some (vf_n64 (FP.drem x y)))
  | _ => none
def mm_hdneg (L : mm_L) (st : List mm_V) (μ : mm_M) (bs : List Bool) (os : List (Option Nat)) : Option mm_R :=
  match st with
  | .inr (.double x) :: r => some (none, L, .inr (.double (FP.dneg x)) :: r, μ, bs, os, none)
  | _ => none
def mm_hi2f (L : mm_L) (st : List mm_V) (μ : mm_M) (bs : List Bool) (os : List (Option Nat)) : Option mm_R :=
  match st with
  | .inr (.int x) :: r => some (none, L, .inr (.float (FP.i2f x)) :: r, μ, bs, os, none)
  | _ => none
def mm_hl2f (L : mm_L) (st : List mm_V) (μ : mm_M) (bs : List Bool) (os : List (Option Nat)) : Option mm_R :=
  match st with
  | .inr (.long x) :: r => some (none, L, .inr (.float (FP.l2f x)) :: r, μ, bs, os, none)
  | _ => none
def mm_hf2i (L : mm_L) (st : List mm_V) (μ : mm_M) (bs : List Bool) (os : List (Option Nat)) : Option mm_R :=
  match st with
  | .inr (.float x) :: r => some (none, L, .inr (.int (FP.f2i x)) :: r, μ, bs, os, none)
  | _ => none
def mm_hf2l (L : mm_L) (st : List mm_V) (μ : mm_M) (bs : List Bool) (os : List (Option Nat)) : Option mm_R :=
  match st with
  | .inr (.float x) :: r => some (none, L, .inr (.long (FP.f2l x)) :: r, μ, bs, os, none)
  | _ => none
def mm_hi2d (L : mm_L) (st : List mm_V) (μ : mm_M) (bs : List Bool) (os : List (Option Nat)) : Option mm_R :=
  match st with
  | .inr (.int x) :: r => some (none, L, .inr (.double (FP.i2d x)) :: r, μ, bs, os, none)
  | _ => none
def mm_hl2d (L : mm_L) (st : List mm_V) (μ : mm_M) (bs : List Bool) (os : List (Option Nat)) : Option mm_R :=
  match st with
  | .inr (.long x) :: r => some (none, L, .inr (.double (FP.l2d x)) :: r, μ, bs, os, none)
  | _ => none
def mm_hd2i (L : mm_L) (st : List mm_V) (μ : mm_M) (bs : List Bool) (os : List (Option Nat)) : Option mm_R :=
  match st with
  | .inr (.double x) :: r => some (none, L, .inr (.int (FP.d2i x)) :: r, μ, bs, os, none)
  | _ => none
def mm_hd2l (L : mm_L) (st : List mm_V) (μ : mm_M) (bs : List Bool) (os : List (Option Nat)) : Option mm_R :=
  match st with
  | .inr (.double x) :: r => some (none, L, .inr (.long (FP.d2l x)) :: r, μ, bs, os, none)
  | _ => none
def mm_hf2d (L : mm_L) (st : List mm_V) (μ : mm_M) (bs : List Bool) (os : List (Option Nat)) : Option mm_R :=
  match st with
  | .inr (.float x) :: r => some (none, L, .inr (.double (FP.f2d x)) :: r, μ, bs, os, some (vf_n64 (FP.f2d x)))
  | _ => none
def mm_hd2f (L : mm_L) (st : List mm_V) (μ : mm_M) (bs : List Bool) (os : List (Option Nat)) : Option mm_R :=
  match st with
  | .inr (.double x) :: r => some (none, L, .inr (.float (FP.d2f x)) :: r, μ, bs, os, some (vf_n32 (FP.d2f x)))
  | _ => none
def mm_hfcmp (op : CmpOp) (L : mm_L) (st : List mm_V) (μ : mm_M) (bs : List Bool) (os : List (Option Nat)) : Option mm_R :=
  match st with
  | .inr (.float y) :: .inr (.float x) :: r => some (none, L, vi (Op.cmpValue (FP.fcmp x y) op) :: r, μ, bs, os, none)
  | _ => none
def mm_hdcmp (op : CmpOp) (L : mm_L) (st : List mm_V) (μ : mm_M) (bs : List Bool) (os : List (Option Nat)) : Option mm_R :=
  match st with
  | .inr (.double y) :: .inr (.double x) :: r => some (none, L, vi (Op.cmpValue (FP.dcmp x y) op) :: r, μ, bs, os, none)
  | _ => none
def mm_hlcmp (L : mm_L) (st : List mm_V) (μ : mm_M) (bs : List Bool) (os : List (Option Nat)) : Option mm_R :=
  match st with
  | .inr (.long y) :: .inr (.long x) :: r => some (none, L, .inr (.int (lg_cmp x y)) :: r, μ, bs, os, none)
  | _ => none
def mm_hdup (L : mm_L) (st : List mm_V) (μ : mm_M) (bs : List Bool) (os : List (Option Nat)) : Option mm_R :=
  match st with
  | v :: r => match mm_c2 v with
    | false => some (none, L, v :: v :: r, μ, bs, os, none)
    | true => none
  | _ => none
def mm_hpop (L : mm_L) (st : List mm_V) (μ : mm_M) (bs : List Bool) (os : List (Option Nat)) : Option mm_R :=
  match st with
  | v :: r => match mm_c2 v with
    | false => some (none, L, r, μ, bs, os, none)
    | true => none
  | _ => none
def mm_hdup_x1 (L : mm_L) (st : List mm_V) (μ : mm_M) (bs : List Bool) (os : List (Option Nat)) : Option mm_R :=
  match st with
  | v :: u :: r => match mm_c2 v || mm_c2 u with
    | false => some (none, L, v :: u :: v :: r, μ, bs, os, none)
    | true => none
  | _ => none
def mm_hdup2 (L : mm_L) (st : List mm_V) (μ : mm_M) (bs : List Bool) (os : List (Option Nat)) : Option mm_R :=
  match st with
  | v :: u :: r => match mm_c2 v || mm_c2 u with
    | false => some (none, L, v :: u :: v :: u :: r, μ, bs, os, none)
    | true => none
  | _ => none
def mm_hif (q : ClassFile.Cond) (tg : Nat) (L : mm_L) (st : List mm_V) (μ : mm_M) (bs : List Bool) (os : List (Option Nat)) : Option mm_R :=
  match q with
  | .eq => match st with
    | .inr (.int x) :: r => match bs with
      | true :: b2 => some (some tg, L, r, μ, b2, os, some (x = 0))
      | false :: b2 => some (none, L, r, μ, b2, os, some (¬ x = 0))
      | [] => none
    | _ => none
  | .ne => match st with
    | .inr (.int x) :: r => match bs with
      | true :: b2 => some (some tg, L, r, μ, b2, os, some (¬ x = 0))
      | false :: b2 => some (none, L, r, μ, b2, os, some (x = 0))
      | [] => none
    | _ => none
  | .lt => match st with
    | .inr (.int x) :: r => match bs with
      | true :: b2 => some (some tg, L, r, μ, b2, os, some (x < 0))
      | false :: b2 => some (none, L, r, μ, b2, os, some (¬ x < 0))
      | [] => none
    | _ => none
  | .ge => match st with
    | .inr (.int x) :: r => match bs with
      | true :: b2 => some (some tg, L, r, μ, b2, os, some (0 ≤ x))
      | false :: b2 => some (none, L, r, μ, b2, os, some (¬ 0 ≤ x))
      | [] => none
    | _ => none
  | .gt => match st with
    | .inr (.int x) :: r => match bs with
      | true :: b2 => some (some tg, L, r, μ, b2, os, some (0 < x))
      | false :: b2 => some (none, L, r, μ, b2, os, some (¬ 0 < x))
      | [] => none
    | _ => none
  | .le => match st with
    | .inr (.int x) :: r => match bs with
      | true :: b2 => some (some tg, L, r, μ, b2, os, some (x ≤ 0))
      | false :: b2 => some (none, L, r, μ, b2, os, some (¬ x ≤ 0))
      | [] => none
    | _ => none
def mm_hic (q : ClassFile.Cond) (tg : Nat) (L : mm_L) (st : List mm_V) (μ : mm_M) (bs : List Bool) (os : List (Option Nat)) : Option mm_R :=
  match q with
  | .eq => match st with
    | .inr (.int y) :: .inr (.int x) :: r => match bs with
      | true :: b2 => some (some tg, L, r, μ, b2, os, some (x = y))
      | false :: b2 => some (none, L, r, μ, b2, os, some (¬ x = y))
      | [] => none
    | _ => none
  | .ne => match st with
    | .inr (.int y) :: .inr (.int x) :: r => match bs with
      | true :: b2 => some (some tg, L, r, μ, b2, os, some (¬ x = y))
      | false :: b2 => some (none, L, r, μ, b2, os, some (x = y))
      | [] => none
    | _ => none
  | .lt => match st with
    | .inr (.int y) :: .inr (.int x) :: r => match bs with
      | true :: b2 => some (some tg, L, r, μ, b2, os, some (x < y))
      | false :: b2 => some (none, L, r, μ, b2, os, some (¬ x < y))
      | [] => none
    | _ => none
  | .ge => match st with
    | .inr (.int y) :: .inr (.int x) :: r => match bs with
      | true :: b2 => some (some tg, L, r, μ, b2, os, some (y ≤ x))
      | false :: b2 => some (none, L, r, μ, b2, os, some (¬ y ≤ x))
      | [] => none
    | _ => none
  | .gt => match st with
    | .inr (.int y) :: .inr (.int x) :: r => match bs with
      | true :: b2 => some (some tg, L, r, μ, b2, os, some (y < x))
      | false :: b2 => some (none, L, r, μ, b2, os, some (¬ y < x))
      | [] => none
    | _ => none
  | .le => match st with
    | .inr (.int y) :: .inr (.int x) :: r => match bs with
      | true :: b2 => some (some tg, L, r, μ, b2, os, some (x ≤ y))
      | false :: b2 => some (none, L, r, μ, b2, os, some (¬ x ≤ y))
      | [] => none
    | _ => none
def mm_hgoto (tg : Nat) (L : mm_L) (st : List mm_V) (μ : mm_M) (bs : List Bool) (os : List (Option Nat)) : Option mm_R :=
  some (some tg, L, st, μ, bs, os, none)
def mm_hifn (tg : Nat) (L : mm_L) (st : List mm_V) (μ : mm_M) (bs : List Bool) (os : List (Option Nat)) : Option mm_R :=
  match st with
  | .inl _ :: r => some (none, L, r, μ, bs, os, none)
  | .inr .null :: r => some (some tg, L, r, μ, bs, os, none)
  | _ => none
def mm_hifnn (tg : Nat) (L : mm_L) (st : List mm_V) (μ : mm_M) (bs : List Bool) (os : List (Option Nat)) : Option mm_R :=
  match st with
  | .inl _ :: r => some (some tg, L, r, μ, bs, os, none)
  | .inr .null :: r => some (none, L, r, μ, bs, os, none)
  | _ => none
def mm_hacne (tg : Nat) (L : mm_L) (st : List mm_V) (μ : mm_M) (bs : List Bool) (os : List (Option Nat)) : Option mm_R :=
  match st with
  | .inl (kb, b) :: .inl (ka, a) :: r => match Nat.ble ka 89 && Nat.ble kb 89 with
    | true => match bs with
      | true :: b2 => some (some tg, L, r, μ, b2, os, some (¬ a = b))
      | false :: b2 => some (none, L, r, μ, b2, os, some (a = b))
      | [] => none
    | false => none
  | .inr .null :: .inl _ :: r => some (some tg, L, r, μ, bs, os, none)
  | .inl _ :: .inr .null :: r => some (some tg, L, r, μ, bs, os, none)
  | .inr .null :: .inr .null :: r => some (none, L, r, μ, bs, os, none)
  | _ => none
def mm_htab (d lo hi : Nat) (t : List Nat) (L : mm_L) (st : List mm_V) (μ : mm_M) (bs : List Bool) (os : List (Option Nat)) : Option mm_R :=
  match st with
  | .inr (.int v) :: r => match os with
    | some j :: o2 => match mm_nth t j with
      | some tg => some (some tg, L, r, μ, bs, o2, some (v = nI (lo + j)))
      | none => none
    | none :: o2 => some (some d, L, r, μ, bs, o2, some (v.toInt < lo ∨ (hi : Int) < v.toInt))
    | [] => none
  | _ => none
def mm_lkn : List Nat → Int32 → Prop
  | a :: _ :: l, v => ¬ v = nI a ∧ mm_lkn l v
  | _, _ => True
def mm_hlook (d : Nat) (t : List Nat) (L : mm_L) (st : List mm_V) (μ : mm_M) (bs : List Bool) (os : List (Option Nat)) : Option mm_R :=
  match st with
  | .inr (.int v) :: r => match os with
    | some j :: o2 => match mm_nth t (j + j), mm_nth t (j + j + 1) with
      | some a, some tg => some (some tg, L, r, μ, bs, o2, some (v = nI a))
      | _, _ => none
    | none :: o2 => some (some d, L, r, μ, bs, o2, some (mm_lkn t v))
    | [] => none
  | _ => none
def mm_hgetf (x1 x2 x3 x4 x5 : Nat) (L : mm_L) (st : List mm_V) (μ : mm_M) (bs : List Bool) (os : List (Option Nat)) : Option mm_R :=
  match st, μ with
  | .inl (kd, a) :: r, (K, I, J, F, D, R, nx, sl) => match Nat.beq kd (x1 + 1) || Nat.beq kd (x1 + 21) with
    | true => match x3 with
      | 0 => some (none, L, vi (I a x2) :: r, (K, I, J, F, D, R, nx, sl), bs, os, none)
      | 1 => some (none, L, vl (J a x2) :: r, (K, I, J, F, D, R, nx, sl), bs, os, none)
      | 2 => some (none, L, vf (F a x2) :: r, (K, I, J, F, D, R, nx, sl), bs, os, none)
      | 3 => some (none, L, vd (D a x2) :: r, (K, I, J, F, D, R, nx, sl), bs, os, none)
      | 4 => match os with
        | some b :: o2 => some (none, L, vr x4 b :: r, (K, I, J, F, D, R, nx, sl), bs, o2, some (R a x2 = some b))
        | none :: o2 => some (none, L, vn :: r, (K, I, J, F, D, R, nx, sl), bs, o2, some (R a x2 = none))
        | [] => none
      | 5 => match Nat.beq kd (x1 + 1) with
        | true => some (none, L, vr x4 (a + x5) :: r, (K, I, J, F, D, R, nx, sl), bs, os, none)
        | false => none
      | 6 => match Nat.beq kd (x1 + 1) with
        | true => some (none, L, vr x4 x5 :: r, (K, I, J, F, D, R, nx, sl), bs, os, none)
        | false => none
      | _ => none
    | false => none
  | _, _ => none
def mm_hgets (x1 : Nat) (L : mm_L) (st : List mm_V) (μ : mm_M) (bs : List Bool) (os : List (Option Nat)) : Option mm_R :=
  some (none, L, vr (90 + x1) x1 :: st, μ, bs, os, none)
def mm_hiaload (L : mm_L) (st : List mm_V) (μ : mm_M) (bs : List Bool) (os : List (Option Nat)) : Option mm_R :=
  match st, μ with
  | .inr (.int j) :: .inl (kd, a) :: r, (K, I, J, F, D, R, nx, sl) => match Nat.ble 90 kd with
    | true => some (none, L, vi (mm_sv a j.toNatClampNeg) :: r, (K, I, J, F, D, R, nx, sl), bs, os, some (vp_in j (mm_len a)))
    | false => match mm_ka kd with
      | some (0, len) => some (none, L, vi (I a j.toNatClampNeg) :: r, (K, I, J, F, D, R, nx, sl), bs, os, some (vp_in j len))
      | _ => none
  | _, _ => none
def mm_hlaload (L : mm_L) (st : List mm_V) (μ : mm_M) (bs : List Bool) (os : List (Option Nat)) : Option mm_R :=
  match st, μ with
  | .inr (.int j) :: .inl (kd, a) :: r, (K, I, J, F, D, R, nx, sl) => match mm_ka kd with
    | some (1, len) => some (none, L, vl (J a j.toNatClampNeg) :: r, (K, I, J, F, D, R, nx, sl), bs, os, some (vp_in j len))
    | _ => none
  | _, _ => none
def mm_hfaload (L : mm_L) (st : List mm_V) (μ : mm_M) (bs : List Bool) (os : List (Option Nat)) : Option mm_R :=
  match st, μ with
  | .inr (.int j) :: .inl (kd, a) :: r, (K, I, J, F, D, R, nx, sl) => match mm_ka kd with
    | some (2, len) => some (none, L, vf (F a j.toNatClampNeg) :: r, (K, I, J, F, D, R, nx, sl), bs, os, some (vp_in j len))
    | _ => none
  | _, _ => none
def mm_hdaload (L : mm_L) (st : List mm_V) (μ : mm_M) (bs : List Bool) (os : List (Option Nat)) : Option mm_R :=
  match st, μ with
  | .inr (.int j) :: .inl (kd, a) :: r, (K, I, J, F, D, R, nx, sl) => match mm_ka kd with
    | some (3, len) => some (none, L, vd (D a j.toNatClampNeg) :: r, (K, I, J, F, D, R, nx, sl), bs, os, some (vp_in j len))
    | _ => none
  | _, _ => none
def mm_hbaload (L : mm_L) (st : List mm_V) (μ : mm_M) (bs : List Bool) (os : List (Option Nat)) : Option mm_R :=
  match st, μ with
  | .inr (.int j) :: .inl (kd, a) :: r, (K, I, J, F, D, R, nx, sl) => match mm_ka kd with
    | some (4, len) => some (none, L, vi (I a j.toNatClampNeg) :: r, (K, I, J, F, D, R, nx, sl), bs, os, some (vp_in j len))
    | _ => none
  | _, _ => none
def mm_ek (et : Nat) : Nat := match et with
  | 5 => 5
  | 6 => 8
  | 7 => 9
  | _ => 0
def mm_haaload (L : mm_L) (st : List mm_V) (μ : mm_M) (bs : List Bool) (os : List (Option Nat)) : Option mm_R :=
  match st, μ with
  | .inr (.int j) :: .inl (kd, a) :: r, (K, I, J, F, D, R, nx, sl) => match mm_ka kd with
    | some (et, len) => match mm_ek et with
      | 0 => none
      | ek + 1 => match os with
        | some b :: o2 => some (none, L, vr (ek + 1) b :: r, (K, I, J, F, D, R, nx, sl), bs, o2, some (vp_in j len ∧ R a j.toNatClampNeg = some b))
        | none :: o2 => some (none, L, vn :: r, (K, I, J, F, D, R, nx, sl), bs, o2, some (vp_in j len ∧ R a j.toNatClampNeg = none))
        | [] => none
    | _ => none
  | _, _ => none
def mm_halen (L : mm_L) (st : List mm_V) (μ : mm_M) (bs : List Bool) (os : List (Option Nat)) : Option mm_R :=
  match st with
  | .inl (kd, a) :: r => match Nat.ble 90 kd with
    | true => some (none, L, vi (nI (mm_len a)) :: r, μ, bs, os, none)
    | false => match mm_ka kd with
      | some (_, len) => some (none, L, vi (nI len) :: r, μ, bs, os, none)
      | none => none
  | _ => none
def mm_hputf (x1 x2 x3 x4 x5 : Nat) (L : mm_L) (st : List mm_V) (μ : mm_M) (bs : List Bool) (os : List (Option Nat)) : Option mm_R :=
  match st, μ with
  | .inr (.int v) :: .inl (kd, a) :: r, (K, I, J, F, D, R, nx, sl) => match (Nat.beq kd (x1 + 1) || Nat.beq kd (x1 + 21)) && Nat.beq x3 0 with
    | true => some (none, L, r, (K, mm_up I a x2 v, J, F, D, R, nx, sl), bs, os, none)
    | false => none
  | .inr (.long v) :: .inl (kd, a) :: r, (K, I, J, F, D, R, nx, sl) => match (Nat.beq kd (x1 + 1) || Nat.beq kd (x1 + 21)) && Nat.beq x3 1 with
    | true => some (none, L, r, (K, I, mm_up J a x2 v, F, D, R, nx, sl), bs, os, none)
    | false => none
  | .inr (.float v) :: .inl (kd, a) :: r, (K, I, J, F, D, R, nx, sl) => match (Nat.beq kd (x1 + 1) || Nat.beq kd (x1 + 21)) && Nat.beq x3 2 with
    | true => some (none, L, r, (K, I, J, mm_up F a x2 v, D, R, nx, sl), bs, os, none)
    | false => none
  | .inr (.double v) :: .inl (kd, a) :: r, (K, I, J, F, D, R, nx, sl) => match (Nat.beq kd (x1 + 1) || Nat.beq kd (x1 + 21)) && Nat.beq x3 3 with
    | true => some (none, L, r, (K, I, J, F, mm_up D a x2 v, R, nx, sl), bs, os, none)
    | false => none
  | .inl (kb, b) :: .inl (kd, a) :: r, (K, I, J, F, D, R, nx, sl) => match Nat.beq kb x4 && ((Nat.beq kd (x1 + 1) || Nat.beq kd (x1 + 21)) && Nat.beq x3 4) with
    | true => some (none, L, r, (K, I, J, F, D, mm_up R a x2 (some b), nx, sl), bs, os, none)
    | false => match Nat.beq kb x4 && (Nat.beq kd (x1 + 21) && (Nat.ble 5 x3 && Nat.ble x3 6)) with
      | true => some (none, L, r, (K, I, J, F, D, mm_up R a x2 (some b), nx, sl), bs, os, some (K a = x1 + 21))
      | false => none
  | .inr .null :: .inl (kd, a) :: r, (K, I, J, F, D, R, nx, sl) => match (Nat.beq kd (x1 + 1) || Nat.beq kd (x1 + 21)) && Nat.beq x3 4 with
    | true => some (none, L, r, (K, I, J, F, D, mm_up R a x2 none, nx, sl), bs, os, none)
    | false => none
  | _, _ => none
def mm_hiastore (L : mm_L) (st : List mm_V) (μ : mm_M) (bs : List Bool) (os : List (Option Nat)) : Option mm_R :=
  match st, μ with
  | .inr (.int v) :: .inr (.int j) :: .inl (kd, a) :: r, (K, I, J, F, D, R, nx, sl) => match mm_ka kd with
    | some (0, len) => some (none, L, r, (K, mm_up I a j.toNatClampNeg v, J, F, D, R, nx, sl), bs, os, some (vp_in j len))
    | _ => none
  | _, _ => none
def mm_hlastore (L : mm_L) (st : List mm_V) (μ : mm_M) (bs : List Bool) (os : List (Option Nat)) : Option mm_R :=
  match st, μ with
  | .inr (.long v) :: .inr (.int j) :: .inl (kd, a) :: r, (K, I, J, F, D, R, nx, sl) => match mm_ka kd with
    | some (1, len) => some (none, L, r, (K, I, mm_up J a j.toNatClampNeg v, F, D, R, nx, sl), bs, os, some (vp_in j len))
    | _ => none
  | _, _ => none
def mm_hfastore (L : mm_L) (st : List mm_V) (μ : mm_M) (bs : List Bool) (os : List (Option Nat)) : Option mm_R :=
  match st, μ with
  | .inr (.float v) :: .inr (.int j) :: .inl (kd, a) :: r, (K, I, J, F, D, R, nx, sl) => match mm_ka kd with
    | some (2, len) => some (none, L, r, (K, I, J, mm_up F a j.toNatClampNeg v, D, R, nx, sl), bs, os, some (vp_in j len))
    | _ => none
  | _, _ => none
def mm_hdastore (L : mm_L) (st : List mm_V) (μ : mm_M) (bs : List Bool) (os : List (Option Nat)) : Option mm_R :=
  match st, μ with
  | .inr (.double v) :: .inr (.int j) :: .inl (kd, a) :: r, (K, I, J, F, D, R, nx, sl) => match mm_ka kd with
    | some (3, len) => some (none, L, r, (K, I, J, F, mm_up D a j.toNatClampNeg v, R, nx, sl), bs, os, some (vp_in j len))
    | _ => none
  | _, _ => none
def mm_hbastore (L : mm_L) (st : List mm_V) (μ : mm_M) (bs : List Bool) (os : List (Option Nat)) : Option mm_R :=
  match st, μ with
  | .inr (.int v) :: .inr (.int j) :: .inl (kd, a) :: r, (K, I, J, F, D, R, nx, sl) => match mm_ka kd with
    | some (4, len) => some (none, L, r, (K, mm_up I a j.toNatClampNeg (vp_nar .boolean v), J, F, D, R, nx, sl), bs, os, some (vp_in j len))
    | _ => none
  | _, _ => none
def mm_haastore (L : mm_L) (st : List mm_V) (μ : mm_M) (bs : List Bool) (os : List (Option Nat)) : Option mm_R :=
  match st, μ with
  | .inl (kb, b) :: .inr (.int j) :: .inl (kd, a) :: r, (K, I, J, F, D, R, nx, sl) => match mm_ka kd with
    | some (et, len) => match Nat.ble 5 et && Nat.beq kb (mm_ek et) with
      | true => some (none, L, r, (K, I, J, F, D, mm_up R a j.toNatClampNeg (some b), nx, sl), bs, os, some (vp_in j len))
      | false => none
    | _ => none
  | .inr .null :: .inr (.int j) :: .inl (kd, a) :: r, (K, I, J, F, D, R, nx, sl) => match mm_ka kd with
    | some (et, len) => match Nat.ble 5 et with
      | true => some (none, L, r, (K, I, J, F, D, mm_up R a j.toNatClampNeg none, nx, sl), bs, os, some (vp_in j len))
      | false => none
    | _ => none
  | _, _ => none
def mm_hnew (x1 x2 : Nat) (L : mm_L) (st : List mm_V) (μ : mm_M) (bs : List Bool) (os : List (Option Nat)) : Option mm_R :=
  match μ with
  | (K, I, J, F, D, R, nx, sl) => some (none, L, vr (x1 + 21) nx :: st, (mm_uk K nx (x1 + 21), mm_cl I nx 0, mm_cl J nx 0, mm_cl F nx 0, mm_cl D nx 0, mm_cl R nx none, nx + 1, sl + x2), bs, os, none)
def mm_hnewa (x2 x3 x4 : Nat) (L : mm_L) (st : List mm_V) (μ : mm_M) (bs : List Bool) (os : List (Option Nat)) : Option mm_R :=
  match st, μ with
  | .inr (.int n) :: r, (K, I, J, F, D, R, nx, sl) => match x2 with
    | 0 => some (none, L, vr x3 nx :: r, (mm_uk K nx x3, mm_cl I nx 0, J, F, D, R, nx + 1, sl + x4), bs, os, some (n = nI x4))
    | 1 => some (none, L, vr x3 nx :: r, (mm_uk K nx x3, I, mm_cl J nx 0, F, D, R, nx + 1, sl + x4), bs, os, some (n = nI x4))
    | 2 => some (none, L, vr x3 nx :: r, (mm_uk K nx x3, I, J, mm_cl F nx 0, D, R, nx + 1, sl + x4), bs, os, some (n = nI x4))
    | 3 => some (none, L, vr x3 nx :: r, (mm_uk K nx x3, I, J, F, mm_cl D nx 0, R, nx + 1, sl + x4), bs, os, some (n = nI x4))
    | 4 => some (none, L, vr x3 nx :: r, (mm_uk K nx x3, mm_cl I nx 0, J, F, D, R, nx + 1, sl + x4), bs, os, some (n = nI x4))
    | _ => some (none, L, vr x3 nx :: r, (mm_uk K nx x3, I, J, F, D, mm_cl R nx none, nx + 1, sl + x4), bs, os, some (n = nI x4))
  | _, _ => none
def mm_cs : List mm_V → Nat
  | [] => 0
  | v :: l => match mm_c2 v with
    | true => mm_cs l + 2
    | false => mm_cs l + 1
def mm_hoinit (x1 : Nat) (L : mm_L) (st : List mm_V) (μ : mm_M) (bs : List Bool) (os : List (Option Nat)) : Option mm_R :=
  match x1, st with
  | 1, .inl _ :: r => match Nat.ble (mm_cs r) 8 with
    | true => some (none, L, r, μ, bs, os, none)
    | false => none
  | _, _ => none
def mm_cp {α : Type} (f : Nat → Nat → α) (a0 a sp dp n : Nat) : Nat → Nat → α := fun c j => if c = a then va_cpy (f a0) (f a) sp dp n j else f c j
def mm_hstat (x1 : Nat) (L : mm_L) (st : List mm_V) (μ : mm_M) (bs : List Bool) (os : List (Option Nat)) : Option mm_R :=
  match x1, st, μ with
  | 1, .inr (.int y) :: .inr (.int x) :: r, _ => match Nat.ble (mm_cs r) 8 with
    | true => some (none, L, vi (if x < y then y else x) :: r, μ, bs, os, none)
    | false => none
  | 2, .inr (.int y) :: .inr (.int x) :: r, _ => match Nat.ble (mm_cs r) 8 with
    | true => some (none, L, vi (if y < x then y else x) :: r, μ, bs, os, none)
    | false => none
  | 3, .inr (.int x) :: r, _ => match Nat.ble (mm_cs r) 8 with
    | true => some (none, L, vi (if 0 ≤ x then x else 0 - x) :: r, μ, bs, os, none)
    | false => none
  | 4, .inr (.long y) :: .inr (.long x) :: r, _ => match Nat.ble (mm_cs r) 8 with
    | true => some (none, L, vl (if y < x then x else y) :: r, μ, bs, os, none)
    | false => none
  | 5, .inr (.double b) :: r, _ => match Nat.ble (mm_cs r) 8 with
    | true => some (none, L, vl b.toInt64 :: r, μ, bs, os, none)
    | false => none
  | 7, .inr (.int n) :: .inr (.int dp) :: .inl (k1, a) :: .inr (.int sp) :: .inl (k0, a0) :: r, (K, I, J, F, D, R, nx, sl) => match mm_ka k0, mm_ka k1, Nat.ble (mm_cs r) 8 with
    | some (1, l0), some (1, l1), true => some (none, L, r, (K, I, mm_cp J a0 a sp.toNatClampNeg dp.toNatClampNeg n.toNatClampNeg, F, D, R, nx, sl), bs, os, some (¬ sp < 0 ∧ ¬ dp < 0 ∧ ¬ n < 0 ∧ sp.toNatClampNeg + n.toNatClampNeg ≤ l0 ∧ dp.toNatClampNeg + n.toNatClampNeg ≤ l1))
    | _, _, _ => none
  | 8, .inr (.int n) :: .inr (.int dp) :: .inl (k1, a) :: .inr (.int sp) :: .inl (k0, a0) :: r, (K, I, J, F, D, R, nx, sl) => match mm_ka k0, mm_ka k1, Nat.ble (mm_cs r) 8 with
    | some (3, l0), some (3, l1), true => some (none, L, r, (K, I, J, F, mm_cp D a0 a sp.toNatClampNeg dp.toNatClampNeg n.toNatClampNeg, R, nx, sl), bs, os, some (¬ sp < 0 ∧ ¬ dp < 0 ∧ ¬ n < 0 ∧ sp.toNatClampNeg + n.toNatClampNeg ≤ l0 ∧ dp.toNatClampNeg + n.toNatClampNeg ≤ l1))
    | _, _, _ => none
  | _, _, _ => none
def mm_one (i : Instr) (x1 x2 x3 x4 x5 : Nat) (t : List Nat) : mm_L → List mm_V → mm_M → List Bool → List (Option Nat) → Option mm_R :=
  match i with
  | .iconst n => mm_hci x1 x2
  | .bipush n => mm_hci x1 x2
  | .sipush n => mm_hci x1 x2
  | .lconst n => mm_hlc n.val
  | .dconst n => mm_hdc n.val
  | .fconst n => mm_hfc n.val
  | .ldc _ => mm_hldc x2
  | .ldc2_w _ => mm_hld2 x1 x2
  | .aconst_null => mm_hnull
  | .iload k => mm_hiload k
  | .iload_n k => mm_hiload k.val
  | .istore k => mm_histore k
  | .istore_n k => mm_histore k.val
  | .lload k => mm_hlload k
  | .lload_n k => mm_hlload k.val
  | .lstore k => mm_hlstore k
  | .lstore_n k => mm_hlstore k.val
  | .fload k => mm_hfload k
  | .fload_n k => mm_hfload k.val
  | .fstore k => mm_hfstore k
  | .fstore_n k => mm_hfstore k.val
  | .dload k => mm_hdload k
  | .dload_n k => mm_hdload k.val
  | .dstore k => mm_hdstore k
  | .dstore_n k => mm_hdstore k.val
  | .aload k => mm_haload k
  | .aload_n k => mm_haload k.val
  | .astore k => mm_hastore k
  | .astore_n k => mm_hastore k.val
  | .iinc k _ => mm_hiinc k x1 x2
  | .iadd => mm_hiadd
  | .isub => mm_hisub
  | .imul => mm_himul
  | .iand => mm_hiand
  | .ior => mm_hior
  | .ixor => mm_hixor
  | .ishl => mm_hishl
  | .ishr => mm_hishr
  | .iushr => mm_hiushr
  | .idiv => mm_hidiv
  | .irem => mm_hirem
  | .ladd => mm_hladd
  | .lsub => mm_hlsub
  | .lmul => mm_hlmul
  | .land => mm_hland
  | .lor => mm_hlor
  | .lxor => mm_hlxor
  | .ldiv => mm_hldiv
  | .lrem => mm_hlrem
  | .lshl => mm_hlshl
  | .lshr => mm_hlshr
  | .lushr => mm_hlushr
  | .ineg => mm_hineg
  | .i2l => mm_hi2l
  | .l2i => mm_hl2i
  | .i2b => mm_hi2b
  | .i2s => mm_hi2s
  | .i2c => mm_hi2c
  | .fadd => mm_hfadd
  | .fsub => mm_hfsub
  | .fmul => mm_hfmul
  | .fdiv => mm_hfdiv
  | .frem => mm_hfrem
  | .dadd => mm_hdadd
  | .dsub => mm_hdsub
  | .dmul => mm_hdmul
  | .ddiv => mm_hddiv
  | .drem => mm_hdrem
  | .dneg => mm_hdneg
  | .i2f => mm_hi2f
  | .l2f => mm_hl2f
  | .f2i => mm_hf2i
  | .f2l => mm_hf2l
  | .i2d => mm_hi2d
  | .l2d => mm_hl2d
  | .d2i => mm_hd2i
  | .d2l => mm_hd2l
  | .f2d => mm_hf2d
  | .d2f => mm_hd2f
  | .fcmp op => mm_hfcmp op
  | .dcmp op => mm_hdcmp op
  | .lcmp => mm_hlcmp
  | .dup => mm_hdup
  | .pop => mm_hpop
  | .dup_x1 => mm_hdup_x1
  | .dup2 => mm_hdup2
  | .ifCond q _ => mm_hif q x1
  | .if_icmp q _ => mm_hic q x1
  | .goto _ => mm_hgoto x1
  | .ifnull _ => mm_hifn x1
  | .ifnonnull _ => mm_hifnn x1
  | .if_acmp .ne _ => mm_hacne x1
  | .tableswitch _ _ _ _ => mm_htab x1 x2 x3 t
  | .lookupswitch _ _ => mm_hlook x1 t
  | .getfield _ => mm_hgetf x1 x2 x3 x4 x5
  | .getstatic _ => mm_hgets x1
  | .iaload => mm_hiaload
  | .laload => mm_hlaload
  | .faload => mm_hfaload
  | .daload => mm_hdaload
  | .baload => mm_hbaload
  | .aaload => mm_haaload
  | .arraylength => mm_halen
  | .putfield _ => mm_hputf x1 x2 x3 x4 x5
  | .iastore => mm_hiastore
  | .lastore => mm_hlastore
  | .fastore => mm_hfastore
  | .dastore => mm_hdastore
  | .bastore => mm_hbastore
  | .aastore => mm_haastore
  | .new _ => mm_hnew x1 x2
  | .newarray _ => mm_hnewa x2 x3 x4
  | .anewarray _ => mm_hnewa x2 x3 x4
  | .invokespecial _ => mm_hoinit x1
  | .invokestatic _ => mm_hstat x1
  | _ => fun _ _ _ _ _ => none
def mm_go : Nat → List mm_E → List mm_E → mm_L → List mm_V → mm_M → List Bool → List (Option Nat) → Prop → Option (List mm_E × mm_L × List mm_V × mm_M × Prop)
  | 0, _, rem, L, st, μ, _, _, P => some (rem, L, st, μ, P)
  | n + 1, code, rem, L, st, μ, bs, os, P => match rem with
    | [] => some (rem, L, st, μ, P)
    | (pc, i, len, (x1, x2, x3, x4, x5), t) :: rem2 => match mm_one i x1 x2 x3 x4 x5 t L st μ bs os with
      | none => some (rem, L, st, μ, P)
      | some (none, L2, st2, μ2, bs2, os2, none) => mm_go n code rem2 L2 st2 μ2 bs2 os2 P
      | some (none, L2, st2, μ2, bs2, os2, some c) => mm_go n code rem2 L2 st2 μ2 bs2 os2 (P ∧ c)
      | some (some tg, L2, st2, μ2, bs2, os2, none) => mm_go n code (mm_to code tg) L2 st2 μ2 bs2 os2 P
      | some (some tg, L2, st2, μ2, bs2, os2, some c) => mm_go n code (mm_to code tg) L2 st2 μ2 bs2 os2 (P ∧ c)
