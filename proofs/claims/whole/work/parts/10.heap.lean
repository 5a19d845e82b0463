/-! THE HEAP AS FUNCTIONS: fields of ints (booleans), longs, references by (field number, address); rows of ints (bytes, booleans), longs, references by (address, index); the kind of each address; the length of each row; the next address; the slots made so far -/
abbrev zH : Type := (Nat → Nat → Int32) × (Nat → Nat → Int64) × (Nat → Nat → Option Nat) × (Nat → Nat → Int32) × (Nat → Nat → Int64) × (Nat → Nat → Option Nat) × (Nat → Nat) × (Nat → Nat) × Nat × Nat
def zi (h : zH) (f a : Nat) : Int32 := h.1 f a
def zl (h : zH) (f a : Nat) : Int64 := h.2.1 f a
def zr (h : zH) (f a : Nat) : Option Nat := h.2.2.1 f a
def zI (h : zH) (a i : Nat) : Int32 := h.2.2.2.1 a i
def zL (h : zH) (a i : Nat) : Int64 := h.2.2.2.2.1 a i
def zR (h : zH) (a i : Nat) : Option Nat := h.2.2.2.2.2.1 a i
def zk (h : zH) (a : Nat) : Nat := h.2.2.2.2.2.2.1 a
def zn (h : zH) (a : Nat) : Nat := h.2.2.2.2.2.2.2.1 a
def zx (h : zH)  : Nat := h.2.2.2.2.2.2.2.2.1 
def zt (h : zH)  : Nat := h.2.2.2.2.2.2.2.2.2 
def zu {α : Type} (m : Nat → Nat → α) (f a : Nat) (v : α) : Nat → Nat → α := fun g b => if g = f ∧ b = a then v else m g b
def zSi (h : zH) (f a : Nat) (v : Int32) : zH := (zu h.1 f a v, h.2.1, h.2.2.1, h.2.2.2.1, h.2.2.2.2.1, h.2.2.2.2.2.1, h.2.2.2.2.2.2.1, h.2.2.2.2.2.2.2.1, h.2.2.2.2.2.2.2.2.1, h.2.2.2.2.2.2.2.2.2)
def zSl (h : zH) (f a : Nat) (v : Int64) : zH := (h.1, zu h.2.1 f a v, h.2.2.1, h.2.2.2.1, h.2.2.2.2.1, h.2.2.2.2.2.1, h.2.2.2.2.2.2.1, h.2.2.2.2.2.2.2.1, h.2.2.2.2.2.2.2.2.1, h.2.2.2.2.2.2.2.2.2)
def zSr (h : zH) (f a : Nat) (v : Option Nat) : zH := (h.1, h.2.1, zu h.2.2.1 f a v, h.2.2.2.1, h.2.2.2.2.1, h.2.2.2.2.2.1, h.2.2.2.2.2.2.1, h.2.2.2.2.2.2.2.1, h.2.2.2.2.2.2.2.2.1, h.2.2.2.2.2.2.2.2.2)
def zSI (h : zH) (a i : Nat) (v : Int32) : zH := (h.1, h.2.1, h.2.2.1, zu h.2.2.2.1 a i v, h.2.2.2.2.1, h.2.2.2.2.2.1, h.2.2.2.2.2.2.1, h.2.2.2.2.2.2.2.1, h.2.2.2.2.2.2.2.2.1, h.2.2.2.2.2.2.2.2.2)
def zSL (h : zH) (a i : Nat) (v : Int64) : zH := (h.1, h.2.1, h.2.2.1, h.2.2.2.1, zu h.2.2.2.2.1 a i v, h.2.2.2.2.2.1, h.2.2.2.2.2.2.1, h.2.2.2.2.2.2.2.1, h.2.2.2.2.2.2.2.2.1, h.2.2.2.2.2.2.2.2.2)
def zSR (h : zH) (a i : Nat) (v : Option Nat) : zH := (h.1, h.2.1, h.2.2.1, h.2.2.2.1, h.2.2.2.2.1, zu h.2.2.2.2.2.1 a i v, h.2.2.2.2.2.2.1, h.2.2.2.2.2.2.2.1, h.2.2.2.2.2.2.2.2.1, h.2.2.2.2.2.2.2.2.2)
def zSF (h : zH) (a : Nat) (g : Nat → Int32) : zH := (h.1, h.2.1, h.2.2.1, fun b i => if b = a then g i else h.2.2.2.1 b i, h.2.2.2.2.1, h.2.2.2.2.2.1, h.2.2.2.2.2.2.1, h.2.2.2.2.2.2.2.1, h.2.2.2.2.2.2.2.2.1, h.2.2.2.2.2.2.2.2.2)
def zNw (h : zH) (k n : Nat) : zH := (fun f a => if a = zx h then 0 else h.1 f a, fun f a => if a = zx h then 0 else h.2.1 f a, fun f a => if a = zx h then none else h.2.2.1 f a, fun a i => if a = zx h then 0 else h.2.2.2.1 a i, fun a i => if a = zx h then 0 else h.2.2.2.2.1 a i, fun a i => if a = zx h then none else h.2.2.2.2.2.1 a i, fun a => if a = zx h then k else h.2.2.2.2.2.2.1 a, fun a => if a = zx h then n else h.2.2.2.2.2.2.2.1 a, zx h + 1, zt h + n)
theorem zi_Si (h : zH) (f0 a0 : Nat) (v0 : Int32) (f a : Nat) : zi (zSi h f0 a0 v0) f a = if f = f0 ∧ a = a0 then v0 else zi h f a := rfl
theorem zi_Sl (h : zH) (f0 a0 : Nat) (v0 : Int64) (f a : Nat) : zi (zSl h f0 a0 v0) f a = zi h f a := rfl
theorem zi_Sr (h : zH) (f0 a0 : Nat) (v0 : Option Nat) (f a : Nat) : zi (zSr h f0 a0 v0) f a = zi h f a := rfl
theorem zi_SI (h : zH) (a0 i0 : Nat) (v0 : Int32) (f a : Nat) : zi (zSI h a0 i0 v0) f a = zi h f a := rfl
theorem zi_SL (h : zH) (a0 i0 : Nat) (v0 : Int64) (f a : Nat) : zi (zSL h a0 i0 v0) f a = zi h f a := rfl
theorem zi_SR (h : zH) (a0 i0 : Nat) (v0 : Option Nat) (f a : Nat) : zi (zSR h a0 i0 v0) f a = zi h f a := rfl
theorem zi_SF (h : zH) (a0 : Nat) (g0 : Nat → Int32) (f a : Nat) : zi (zSF h a0 g0) f a = zi h f a := rfl
theorem zi_Nw (h : zH) (k0 n0 : Nat) (f a : Nat) : zi (zNw h k0 n0) f a = if a = zx h then 0 else zi h f a := rfl
theorem zl_Si (h : zH) (f0 a0 : Nat) (v0 : Int32) (f a : Nat) : zl (zSi h f0 a0 v0) f a = zl h f a := rfl
theorem zl_Sl (h : zH) (f0 a0 : Nat) (v0 : Int64) (f a : Nat) : zl (zSl h f0 a0 v0) f a = if f = f0 ∧ a = a0 then v0 else zl h f a := rfl
theorem zl_Sr (h : zH) (f0 a0 : Nat) (v0 : Option Nat) (f a : Nat) : zl (zSr h f0 a0 v0) f a = zl h f a := rfl
theorem zl_SI (h : zH) (a0 i0 : Nat) (v0 : Int32) (f a : Nat) : zl (zSI h a0 i0 v0) f a = zl h f a := rfl
theorem zl_SL (h : zH) (a0 i0 : Nat) (v0 : Int64) (f a : Nat) : zl (zSL h a0 i0 v0) f a = zl h f a := rfl
theorem zl_SR (h : zH) (a0 i0 : Nat) (v0 : Option Nat) (f a : Nat) : zl (zSR h a0 i0 v0) f a = zl h f a := rfl
theorem zl_SF (h : zH) (a0 : Nat) (g0 : Nat → Int32) (f a : Nat) : zl (zSF h a0 g0) f a = zl h f a := rfl
theorem zl_Nw (h : zH) (k0 n0 : Nat) (f a : Nat) : zl (zNw h k0 n0) f a = if a = zx h then 0 else zl h f a := rfl
theorem zr_Si (h : zH) (f0 a0 : Nat) (v0 : Int32) (f a : Nat) : zr (zSi h f0 a0 v0) f a = zr h f a := rfl
theorem zr_Sl (h : zH) (f0 a0 : Nat) (v0 : Int64) (f a : Nat) : zr (zSl h f0 a0 v0) f a = zr h f a := rfl
theorem zr_Sr (h : zH) (f0 a0 : Nat) (v0 : Option Nat) (f a : Nat) : zr (zSr h f0 a0 v0) f a = if f = f0 ∧ a = a0 then v0 else zr h f a := rfl
theorem zr_SI (h : zH) (a0 i0 : Nat) (v0 : Int32) (f a : Nat) : zr (zSI h a0 i0 v0) f a = zr h f a := rfl
theorem zr_SL (h : zH) (a0 i0 : Nat) (v0 : Int64) (f a : Nat) : zr (zSL h a0 i0 v0) f a = zr h f a := rfl
theorem zr_SR (h : zH) (a0 i0 : Nat) (v0 : Option Nat) (f a : Nat) : zr (zSR h a0 i0 v0) f a = zr h f a := rfl
theorem zr_SF (h : zH) (a0 : Nat) (g0 : Nat → Int32) (f a : Nat) : zr (zSF h a0 g0) f a = zr h f a := rfl
theorem zr_Nw (h : zH) (k0 n0 : Nat) (f a : Nat) : zr (zNw h k0 n0) f a = if a = zx h then none else zr h f a := rfl
theorem zI_Si (h : zH) (f0 a0 : Nat) (v0 : Int32) (a i : Nat) : zI (zSi h f0 a0 v0) a i = zI h a i := rfl
theorem zI_Sl (h : zH) (f0 a0 : Nat) (v0 : Int64) (a i : Nat) : zI (zSl h f0 a0 v0) a i = zI h a i := rfl
theorem zI_Sr (h : zH) (f0 a0 : Nat) (v0 : Option Nat) (a i : Nat) : zI (zSr h f0 a0 v0) a i = zI h a i := rfl
theorem zI_SI (h : zH) (a0 i0 : Nat) (v0 : Int32) (a i : Nat) : zI (zSI h a0 i0 v0) a i = if a = a0 ∧ i = i0 then v0 else zI h a i := rfl
theorem zI_SL (h : zH) (a0 i0 : Nat) (v0 : Int64) (a i : Nat) : zI (zSL h a0 i0 v0) a i = zI h a i := rfl
theorem zI_SR (h : zH) (a0 i0 : Nat) (v0 : Option Nat) (a i : Nat) : zI (zSR h a0 i0 v0) a i = zI h a i := rfl
theorem zI_SF (h : zH) (a0 : Nat) (g0 : Nat → Int32) (a i : Nat) : zI (zSF h a0 g0) a i = if a = a0 then g0 i else zI h a i := rfl
theorem zI_Nw (h : zH) (k0 n0 : Nat) (a i : Nat) : zI (zNw h k0 n0) a i = if a = zx h then 0 else zI h a i := rfl
theorem zL_Si (h : zH) (f0 a0 : Nat) (v0 : Int32) (a i : Nat) : zL (zSi h f0 a0 v0) a i = zL h a i := rfl
theorem zL_Sl (h : zH) (f0 a0 : Nat) (v0 : Int64) (a i : Nat) : zL (zSl h f0 a0 v0) a i = zL h a i := rfl
theorem zL_Sr (h : zH) (f0 a0 : Nat) (v0 : Option Nat) (a i : Nat) : zL (zSr h f0 a0 v0) a i = zL h a i := rfl
theorem zL_SI (h : zH) (a0 i0 : Nat) (v0 : Int32) (a i : Nat) : zL (zSI h a0 i0 v0) a i = zL h a i := rfl
theorem zL_SL (h : zH) (a0 i0 : Nat) (v0 : Int64) (a i : Nat) : zL (zSL h a0 i0 v0) a i = if a = a0 ∧ i = i0 then v0 else zL h a i := rfl
theorem zL_SR (h : zH) (a0 i0 : Nat) (v0 : Option Nat) (a i : Nat) : zL (zSR h a0 i0 v0) a i = zL h a i := rfl
theorem zL_SF (h : zH) (a0 : Nat) (g0 : Nat → Int32) (a i : Nat) : zL (zSF h a0 g0) a i = zL h a i := rfl
theorem zL_Nw (h : zH) (k0 n0 : Nat) (a i : Nat) : zL (zNw h k0 n0) a i = if a = zx h then 0 else zL h a i := rfl
theorem zR_Si (h : zH) (f0 a0 : Nat) (v0 : Int32) (a i : Nat) : zR (zSi h f0 a0 v0) a i = zR h a i := rfl
theorem zR_Sl (h : zH) (f0 a0 : Nat) (v0 : Int64) (a i : Nat) : zR (zSl h f0 a0 v0) a i = zR h a i := rfl
theorem zR_Sr (h : zH) (f0 a0 : Nat) (v0 : Option Nat) (a i : Nat) : zR (zSr h f0 a0 v0) a i = zR h a i := rfl
theorem zR_SI (h : zH) (a0 i0 : Nat) (v0 : Int32) (a i : Nat) : zR (zSI h a0 i0 v0) a i = zR h a i := rfl
theorem zR_SL (h : zH) (a0 i0 : Nat) (v0 : Int64) (a i : Nat) : zR (zSL h a0 i0 v0) a i = zR h a i := rfl
theorem zR_SR (h : zH) (a0 i0 : Nat) (v0 : Option Nat) (a i : Nat) : zR (zSR h a0 i0 v0) a i = if a = a0 ∧ i = i0 then v0 else zR h a i := rfl
theorem zR_SF (h : zH) (a0 : Nat) (g0 : Nat → Int32) (a i : Nat) : zR (zSF h a0 g0) a i = zR h a i := rfl
theorem zR_Nw (h : zH) (k0 n0 : Nat) (a i : Nat) : zR (zNw h k0 n0) a i = if a = zx h then none else zR h a i := rfl
theorem zk_Si (h : zH) (f0 a0 : Nat) (v0 : Int32) (a : Nat) : zk (zSi h f0 a0 v0) a = zk h a := rfl
theorem zk_Sl (h : zH) (f0 a0 : Nat) (v0 : Int64) (a : Nat) : zk (zSl h f0 a0 v0) a = zk h a := rfl
theorem zk_Sr (h : zH) (f0 a0 : Nat) (v0 : Option Nat) (a : Nat) : zk (zSr h f0 a0 v0) a = zk h a := rfl
theorem zk_SI (h : zH) (a0 i0 : Nat) (v0 : Int32) (a : Nat) : zk (zSI h a0 i0 v0) a = zk h a := rfl
theorem zk_SL (h : zH) (a0 i0 : Nat) (v0 : Int64) (a : Nat) : zk (zSL h a0 i0 v0) a = zk h a := rfl
theorem zk_SR (h : zH) (a0 i0 : Nat) (v0 : Option Nat) (a : Nat) : zk (zSR h a0 i0 v0) a = zk h a := rfl
theorem zk_SF (h : zH) (a0 : Nat) (g0 : Nat → Int32) (a : Nat) : zk (zSF h a0 g0) a = zk h a := rfl
theorem zk_Nw (h : zH) (k0 n0 : Nat) (a : Nat) : zk (zNw h k0 n0) a = if a = zx h then k0 else zk h a := rfl
theorem zn_Si (h : zH) (f0 a0 : Nat) (v0 : Int32) (a : Nat) : zn (zSi h f0 a0 v0) a = zn h a := rfl
theorem zn_Sl (h : zH) (f0 a0 : Nat) (v0 : Int64) (a : Nat) : zn (zSl h f0 a0 v0) a = zn h a := rfl
theorem zn_Sr (h : zH) (f0 a0 : Nat) (v0 : Option Nat) (a : Nat) : zn (zSr h f0 a0 v0) a = zn h a := rfl
theorem zn_SI (h : zH) (a0 i0 : Nat) (v0 : Int32) (a : Nat) : zn (zSI h a0 i0 v0) a = zn h a := rfl
theorem zn_SL (h : zH) (a0 i0 : Nat) (v0 : Int64) (a : Nat) : zn (zSL h a0 i0 v0) a = zn h a := rfl
theorem zn_SR (h : zH) (a0 i0 : Nat) (v0 : Option Nat) (a : Nat) : zn (zSR h a0 i0 v0) a = zn h a := rfl
theorem zn_SF (h : zH) (a0 : Nat) (g0 : Nat → Int32) (a : Nat) : zn (zSF h a0 g0) a = zn h a := rfl
theorem zn_Nw (h : zH) (k0 n0 : Nat) (a : Nat) : zn (zNw h k0 n0) a = if a = zx h then n0 else zn h a := rfl
theorem zx_Si (h : zH) (f0 a0 : Nat) (v0 : Int32)  : zx (zSi h f0 a0 v0)  = zx h  := rfl
theorem zx_Sl (h : zH) (f0 a0 : Nat) (v0 : Int64)  : zx (zSl h f0 a0 v0)  = zx h  := rfl
theorem zx_Sr (h : zH) (f0 a0 : Nat) (v0 : Option Nat)  : zx (zSr h f0 a0 v0)  = zx h  := rfl
theorem zx_SI (h : zH) (a0 i0 : Nat) (v0 : Int32)  : zx (zSI h a0 i0 v0)  = zx h  := rfl
theorem zx_SL (h : zH) (a0 i0 : Nat) (v0 : Int64)  : zx (zSL h a0 i0 v0)  = zx h  := rfl
theorem zx_SR (h : zH) (a0 i0 : Nat) (v0 : Option Nat)  : zx (zSR h a0 i0 v0)  = zx h  := rfl
theorem zx_SF (h : zH) (a0 : Nat) (g0 : Nat → Int32)  : zx (zSF h a0 g0)  = zx h  := rfl
theorem zx_Nw (h : zH) (k0 n0 : Nat)  : zx (zNw h k0 n0)  = zx h + 1 := rfl
theorem zt_Si (h : zH) (f0 a0 : Nat) (v0 : Int32)  : zt (zSi h f0 a0 v0)  = zt h  := rfl
theorem zt_Sl (h : zH) (f0 a0 : Nat) (v0 : Int64)  : zt (zSl h f0 a0 v0)  = zt h  := rfl
theorem zt_Sr (h : zH) (f0 a0 : Nat) (v0 : Option Nat)  : zt (zSr h f0 a0 v0)  = zt h  := rfl
theorem zt_SI (h : zH) (a0 i0 : Nat) (v0 : Int32)  : zt (zSI h a0 i0 v0)  = zt h  := rfl
theorem zt_SL (h : zH) (a0 i0 : Nat) (v0 : Int64)  : zt (zSL h a0 i0 v0)  = zt h  := rfl
theorem zt_SR (h : zH) (a0 i0 : Nat) (v0 : Option Nat)  : zt (zSR h a0 i0 v0)  = zt h  := rfl
theorem zt_SF (h : zH) (a0 : Nat) (g0 : Nat → Int32)  : zt (zSF h a0 g0)  = zt h  := rfl
theorem zt_Nw (h : zH) (k0 n0 : Nat)  : zt (zNw h k0 n0)  = zt h + n0 := rfl
