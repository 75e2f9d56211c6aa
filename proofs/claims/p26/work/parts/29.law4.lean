def b_L_stops_327 (N : Nat) (Vp : Pd) (Vn : St) (Vm : St) (Vh : Hb) (Vk0 : St) (Vk1 : St) (Vk2 : St) (Vk3 : St) (Vk4 : St) (Vk5 : St) (ρ : Nat → Option Ru) (p1 : Int32) (s : St × St × Hb × St × St × St × St × St × St × Int32) : Option (Int32 × St × St × Hb × St × St × St × St × St × St) := (zb s.2.2.2.2.2.2.2.2.2 (some (s.2.2.2.2.2.2.2.2.2, s.1, s.2.1, s.2.2.1, s.2.2.2.1, s.2.2.2.2.1, s.2.2.2.2.2.1, s.2.2.2.2.2.2.1, s.2.2.2.2.2.2.2.1, s.2.2.2.2.2.2.2.2.1)))
def b_L_stops_326 (N : Nat) (Vp : Pd) (Vn : St) (Vm : St) (Vh : Hb) (Vk0 : St) (Vk1 : St) (Vk2 : St) (Vk3 : St) (Vk4 : St) (Vk5 : St) (ρ : Nat → Option Ru) (p1 : Int32) (s : St × St × Hb × St × St × St × St × St × St) : Option (Int32 × St × St × Hb × St × St × St × St × St × St) := b_L_stops_327 N Vp Vn Vm Vh Vk0 Vk1 Vk2 Vk3 Vk4 Vk5 ρ p1 (s.1, s.2.1, s.2.2.1, s.2.2.2.1, s.2.2.2.2.1, s.2.2.2.2.2.1, s.2.2.2.2.2.2.1, s.2.2.2.2.2.2.2.1, s.2.2.2.2.2.2.2.2, (0 : Int32))
def b_L_stops_300 (N : Nat) (Vp : Pd) (Vn : St) (Vm : St) (Vh : Hb) (Vk0 : St) (Vk1 : St) (Vk2 : St) (Vk3 : St) (Vk4 : St) (Vk5 : St) (ρ : Nat → Option Ru) (p1 : Int32) (s : St × St × Hb × St × St × St × St × St × St × Int32 × Int32) : Option (Int32 × St × St × Hb × St × St × St × St × St × St) := (if s.2.2.2.2.2.2.2.2.2.2 = 0 then b_L_stops_326 N Vp Vn Vm Vh Vk0 Vk1 Vk2 Vk3 Vk4 Vk5 ρ p1 (s.1, s.2.1, s.2.2.1, s.2.2.2.1, s.2.2.2.2.1, s.2.2.2.2.2.1, s.2.2.2.2.2.2.1, s.2.2.2.2.2.2.2.1, s.2.2.2.2.2.2.2.2.1) else ((f_X5_undo s.1 s.2.2.1 s.2.2.2.1 s.2.2.2.2.1 s.2.2.2.2.2.1 s.2.2.2.2.2.2.1 s.2.2.2.2.2.2.2.1 s.2.2.2.2.2.2.2.2.1).bind fun o3 => (if o3.1 < 0 then b_L_stops_326 N Vp Vn Vm Vh Vk0 Vk1 Vk2 Vk3 Vk4 Vk5 ρ p1 (o3.2.1, s.2.1, o3.2.2, s.2.2.2.1, s.2.2.2.2.1, s.2.2.2.2.2.1, s.2.2.2.2.2.2.1, s.2.2.2.2.2.2.2.1, s.2.2.2.2.2.2.2.2.1) else ((f_X5_way N o3.2.1 s.2.1).bind fun o6 => (if o6.1 = s.2.2.2.2.2.2.2.2.2.1 then b_L_stops_327 N Vp Vn Vm Vh Vk0 Vk1 Vk2 Vk3 Vk4 Vk5 ρ p1 (o3.2.1, o6.2, o3.2.2, s.2.2.2.1, s.2.2.2.2.1, s.2.2.2.2.2.1, s.2.2.2.2.2.2.1, s.2.2.2.2.2.2.2.1, s.2.2.2.2.2.2.2.2.1, (1 : Int32)) else b_L_stops_326 N Vp Vn Vm Vh Vk0 Vk1 Vk2 Vk3 Vk4 Vk5 ρ p1 (o3.2.1, o6.2, o3.2.2, s.2.2.2.1, s.2.2.2.2.1, s.2.2.2.2.2.1, s.2.2.2.2.2.2.1, s.2.2.2.2.2.2.2.1, s.2.2.2.2.2.2.2.2.1))))))
def b_L_stops_299 (N : Nat) (Vp : Pd) (Vn : St) (Vm : St) (Vh : Hb) (Vk0 : St) (Vk1 : St) (Vk2 : St) (Vk3 : St) (Vk4 : St) (Vk5 : St) (ρ : Nat → Option Ru) (p1 : Int32) (s : St × St × Hb × St × St × St × St × St × St × Int32) : Option (Int32 × St × St × Hb × St × St × St × St × St × St) := b_L_stops_300 N Vp Vn Vm Vh Vk0 Vk1 Vk2 Vk3 Vk4 Vk5 ρ p1 (s.1, s.2.1, s.2.2.1, s.2.2.2.1, s.2.2.2.2.1, s.2.2.2.2.2.1, s.2.2.2.2.2.2.1, s.2.2.2.2.2.2.2.1, s.2.2.2.2.2.2.2.2.1, s.2.2.2.2.2.2.2.2.2, (0 : Int32))
def b_L_stops_295 (N : Nat) (Vp : Pd) (Vn : St) (Vm : St) (Vh : Hb) (Vk0 : St) (Vk1 : St) (Vk2 : St) (Vk3 : St) (Vk4 : St) (Vk5 : St) (ρ : Nat → Option Ru) (p1 : Int32) (s : St × St × Hb × St × St × St × St × St × St × Int32) : Option (Int32 × St × St × Hb × St × St × St × St × St × St) := b_L_stops_300 N Vp Vn Vm Vh Vk0 Vk1 Vk2 Vk3 Vk4 Vk5 ρ p1 (s.1, s.2.1, s.2.2.1, s.2.2.2.1, s.2.2.2.2.1, s.2.2.2.2.2.1, s.2.2.2.2.2.2.1, s.2.2.2.2.2.2.2.1, s.2.2.2.2.2.2.2.2.1, s.2.2.2.2.2.2.2.2.2, (1 : Int32))
def b_L_stops_212 (N : Nat) (Vp : Pd) (Vn : St) (Vm : St) (Vh : Hb) (Vk0 : St) (Vk1 : St) (Vk2 : St) (Vk3 : St) (Vk4 : St) (Vk5 : St) (ρ : Nat → Option Ru) (p1 : Int32) (K188 : (St × St × Hb × St × St × St × St × St × St × Int32 × Int32 × Int32 × Int32) → Option (Int32 × St × St × Hb × St × St × St × St × St × St)) (s : St × St × Hb × St × St × St × St × St × St × Int32 × Int32 × Int32 × Int32) : Option (Int32 × St × St × Hb × St × St × St × St × St × St) := K188 (s.1, s.2.1, s.2.2.1, s.2.2.2.1, s.2.2.2.2.1, s.2.2.2.2.2.1, s.2.2.2.2.2.2.1, s.2.2.2.2.2.2.2.1, s.2.2.2.2.2.2.2.2.1, s.2.2.2.2.2.2.2.2.2.1, s.2.2.2.2.2.2.2.2.2.2.1, s.2.2.2.2.2.2.2.2.2.2.2.2, (s.2.2.2.2.2.2.2.2.2.2.2.1 + (1 : Int32)))
def b_L_stops_211 (N : Nat) (Vp : Pd) (Vn : St) (Vm : St) (Vh : Hb) (Vk0 : St) (Vk1 : St) (Vk2 : St) (Vk3 : St) (Vk4 : St) (Vk5 : St) (ρ : Nat → Option Ru) (p1 : Int32) (K188 : (St × St × Hb × St × St × St × St × St × St × Int32 × Int32 × Int32 × Int32) → Option (Int32 × St × St × Hb × St × St × St × St × St × St)) (s : St × St × Hb × St × St × St × St × St × St × Int32 × Int32 × Int32) : Option (Int32 × St × St × Hb × St × St × St × St × St × St) := b_L_stops_212 N Vp Vn Vm Vh Vk0 Vk1 Vk2 Vk3 Vk4 Vk5 ρ p1 K188 (s.1, s.2.1, s.2.2.1, s.2.2.2.1, s.2.2.2.2.1, s.2.2.2.2.2.1, s.2.2.2.2.2.2.1, s.2.2.2.2.2.2.2.1, s.2.2.2.2.2.2.2.2.1, s.2.2.2.2.2.2.2.2.2.1, s.2.2.2.2.2.2.2.2.2.2.1, s.2.2.2.2.2.2.2.2.2.2.2, (0 : Int32))
def b_L_stops_188 (N : Nat) (Vp : Pd) (Vn : St) (Vm : St) (Vh : Hb) (Vk0 : St) (Vk1 : St) (Vk2 : St) (Vk3 : St) (Vk4 : St) (Vk5 : St) (ρ : Nat → Option Ru) (p1 : Int32) (K188 : (St × St × Hb × St × St × St × St × St × St × Int32 × Int32 × Int32 × Int32) → Option (Int32 × St × St × Hb × St × St × St × St × St × St)) (s : St × St × Hb × St × St × St × St × St × St × Int32 × Int32 × Int32 × Int32) : Option (Int32 × St × St × Hb × St × St × St × St × St × St) := (if s.2.2.2.2.2.2.2.2.2.2.1 ≤ s.2.2.2.2.2.2.2.2.2.2.2.2 then ((f_X5_leastRamp N s.1 s.2.1 s.2.2.2.2.2.2.2.2.2.1).bind fun o10 => ((f_L_low p1 (30 : Int32)).bind fun o12 => ((f_X5_set s.1 s.2.2.1 s.2.2.2.1 s.2.2.2.2.1 s.2.2.2.2.2.1 s.2.2.2.2.2.2.1 s.2.2.2.2.2.2.2.1 s.2.2.2.2.2.2.2.2.1 (2 : Int32) ((1 : Int32) + o12)).bind fun o14 => (if s.2.2.2.2.2.2.2.2.2.2.2.1 = 0 then b_L_stops_299 N Vp Vn Vm Vh Vk0 Vk1 Vk2 Vk3 Vk4 Vk5 ρ p1 (o14.2.1, o10.2, o14.2.2.1, o14.2.2.2.1, o14.2.2.2.2.1, o14.2.2.2.2.2.1, o14.2.2.2.2.2.2.1, o14.2.2.2.2.2.2.2.1, o14.2.2.2.2.2.2.2.2, s.2.2.2.2.2.2.2.2.2.1) else (if o14.1 < (1 : Int32) then b_L_stops_299 N Vp Vn Vm Vh Vk0 Vk1 Vk2 Vk3 Vk4 Vk5 ρ p1 (o14.2.1, o10.2, o14.2.2.1, o14.2.2.2.1, o14.2.2.2.2.1, o14.2.2.2.2.2.1, o14.2.2.2.2.2.2.1, o14.2.2.2.2.2.2.2.1, o14.2.2.2.2.2.2.2.2, s.2.2.2.2.2.2.2.2.2.1) else (if o10.1 < (1 : Int32) then b_L_stops_299 N Vp Vn Vm Vh Vk0 Vk1 Vk2 Vk3 Vk4 Vk5 ρ p1 (o14.2.1, o10.2, o14.2.2.1, o14.2.2.2.1, o14.2.2.2.2.1, o14.2.2.2.2.2.1, o14.2.2.2.2.2.2.1, o14.2.2.2.2.2.2.2.1, o14.2.2.2.2.2.2.2.2, s.2.2.2.2.2.2.2.2.2.1) else (if o14.1 < o10.1 then b_L_stops_299 N Vp Vn Vm Vh Vk0 Vk1 Vk2 Vk3 Vk4 Vk5 ρ p1 (o14.2.1, o10.2, o14.2.2.1, o14.2.2.2.1, o14.2.2.2.2.1, o14.2.2.2.2.2.1, o14.2.2.2.2.2.2.1, o14.2.2.2.2.2.2.2.1, o14.2.2.2.2.2.2.2.2, s.2.2.2.2.2.2.2.2.2.1) else ((f_X5_way N o14.2.1 o10.2).bind fun o20 => (if s.2.2.2.2.2.2.2.2.2.1 < o20.1 then (if ((1 : Int32) + o12) = o10.1 then b_L_stops_299 N Vp Vn Vm Vh Vk0 Vk1 Vk2 Vk3 Vk4 Vk5 ρ p1 (o14.2.1, o20.2, o14.2.2.1, o14.2.2.2.1, o14.2.2.2.2.1, o14.2.2.2.2.2.1, o14.2.2.2.2.2.2.1, o14.2.2.2.2.2.2.2.1, o14.2.2.2.2.2.2.2.2, s.2.2.2.2.2.2.2.2.2.1) else b_L_stops_295 N Vp Vn Vm Vh Vk0 Vk1 Vk2 Vk3 Vk4 Vk5 ρ p1 (o14.2.1, o20.2, o14.2.2.1, o14.2.2.2.1, o14.2.2.2.2.1, o14.2.2.2.2.2.1, o14.2.2.2.2.2.2.1, o14.2.2.2.2.2.2.2.1, o14.2.2.2.2.2.2.2.2, s.2.2.2.2.2.2.2.2.2.1)) else (if ((1 : Int32) + o12) < o10.1 then b_L_stops_299 N Vp Vn Vm Vh Vk0 Vk1 Vk2 Vk3 Vk4 Vk5 ρ p1 (o14.2.1, o20.2, o14.2.2.1, o14.2.2.2.1, o14.2.2.2.2.1, o14.2.2.2.2.2.1, o14.2.2.2.2.2.2.1, o14.2.2.2.2.2.2.2.1, o14.2.2.2.2.2.2.2.2, s.2.2.2.2.2.2.2.2.2.1) else b_L_stops_295 N Vp Vn Vm Vh Vk0 Vk1 Vk2 Vk3 Vk4 Vk5 ρ p1 (o14.2.1, o20.2, o14.2.2.1, o14.2.2.2.1, o14.2.2.2.2.1, o14.2.2.2.2.2.1, o14.2.2.2.2.2.2.1, o14.2.2.2.2.2.2.2.1, o14.2.2.2.2.2.2.2.2, s.2.2.2.2.2.2.2.2.2.1))))))))))) else (if s.2.2.2.2.2.2.2.2.2.2.2.1 = 0 then b_L_stops_211 N Vp Vn Vm Vh Vk0 Vk1 Vk2 Vk3 Vk4 Vk5 ρ p1 K188 (s.1, s.2.1, s.2.2.1, s.2.2.2.1, s.2.2.2.2.1, s.2.2.2.2.2.1, s.2.2.2.2.2.2.1, s.2.2.2.2.2.2.2.1, s.2.2.2.2.2.2.2.2.1, s.2.2.2.2.2.2.2.2.2.1, s.2.2.2.2.2.2.2.2.2.2.1, s.2.2.2.2.2.2.2.2.2.2.2.2) else ((f_X5_undo s.1 s.2.2.1 s.2.2.2.1 s.2.2.2.2.1 s.2.2.2.2.2.1 s.2.2.2.2.2.2.1 s.2.2.2.2.2.2.2.1 s.2.2.2.2.2.2.2.2.1).bind fun o26 => (if o26.1 < 0 then b_L_stops_211 N Vp Vn Vm Vh Vk0 Vk1 Vk2 Vk3 Vk4 Vk5 ρ p1 K188 (o26.2.1, s.2.1, o26.2.2, s.2.2.2.1, s.2.2.2.2.1, s.2.2.2.2.2.1, s.2.2.2.2.2.2.1, s.2.2.2.2.2.2.2.1, s.2.2.2.2.2.2.2.2.1, s.2.2.2.2.2.2.2.2.2.1, s.2.2.2.2.2.2.2.2.2.2.1, s.2.2.2.2.2.2.2.2.2.2.2.2) else b_L_stops_212 N Vp Vn Vm Vh Vk0 Vk1 Vk2 Vk3 Vk4 Vk5 ρ p1 K188 (o26.2.1, s.2.1, o26.2.2, s.2.2.2.1, s.2.2.2.2.1, s.2.2.2.2.2.1, s.2.2.2.2.2.2.1, s.2.2.2.2.2.2.2.1, s.2.2.2.2.2.2.2.2.1, s.2.2.2.2.2.2.2.2.2.1, s.2.2.2.2.2.2.2.2.2.2.1, s.2.2.2.2.2.2.2.2.2.2.2.2, (1 : Int32))))))
def b_L_stops_183 (N : Nat) (Vp : Pd) (Vn : St) (Vm : St) (Vh : Hb) (Vk0 : St) (Vk1 : St) (Vk2 : St) (Vk3 : St) (Vk4 : St) (Vk5 : St) (ρ : Nat → Option Ru) (p1 : Int32) (s : St × St × Hb × St × St × St × St × St × St × Int32 × Int32 × Int32) : Option (Int32 × St × St × Hb × St × St × St × St × St × St) := lp (b_L_stops_188 N Vp Vn Vm Vh Vk0 Vk1 Vk2 Vk3 Vk4 Vk5 ρ p1) N (s.1, s.2.1, s.2.2.1, s.2.2.2.1, s.2.2.2.2.1, s.2.2.2.2.2.1, s.2.2.2.2.2.2.1, s.2.2.2.2.2.2.2.1, s.2.2.2.2.2.2.2.2.1, s.2.2.2.2.2.2.2.2.2.1, s.2.2.2.2.2.2.2.2.2.2.1, s.2.2.2.2.2.2.2.2.2.2.2, (0 : Int32))
def b_L_stops_182 (N : Nat) (Vp : Pd) (Vn : St) (Vm : St) (Vh : Hb) (Vk0 : St) (Vk1 : St) (Vk2 : St) (Vk3 : St) (Vk4 : St) (Vk5 : St) (ρ : Nat → Option Ru) (p1 : Int32) (s : St × St × Hb × St × St × St × St × St × St × Int32 × Int32) : Option (Int32 × St × St × Hb × St × St × St × St × St × St) := b_L_stops_183 N Vp Vn Vm Vh Vk0 Vk1 Vk2 Vk3 Vk4 Vk5 ρ p1 (s.1, s.2.1, s.2.2.1, s.2.2.2.1, s.2.2.2.2.1, s.2.2.2.2.2.1, s.2.2.2.2.2.2.1, s.2.2.2.2.2.2.2.1, s.2.2.2.2.2.2.2.2.1, s.2.2.2.2.2.2.2.2.2.1, s.2.2.2.2.2.2.2.2.2.2, (0 : Int32))
def b_L_stops_148 (N : Nat) (Vp : Pd) (Vn : St) (Vm : St) (Vh : Hb) (Vk0 : St) (Vk1 : St) (Vk2 : St) (Vk3 : St) (Vk4 : St) (Vk5 : St) (ρ : Nat → Option Ru) (p1 : Int32) (s : St × St × Hb × St × St × St × St × St × St × Int32 × Int32 × Int32) : Option (Int32 × St × St × Hb × St × St × St × St × St × St) := ((f_X5_count N Vp s.1 s.2.2.1 s.2.2.2.1 s.2.2.2.2.1 s.2.2.2.2.2.1 s.2.2.2.2.2.2.1 s.2.2.2.2.2.2.2.1 s.2.2.2.2.2.2.2.2.1 (4 : Int32)).bind fun o29 => (if o29 = (2 : Int32) then ((f_X5_count N Vp s.1 s.2.2.1 s.2.2.2.1 s.2.2.2.2.1 s.2.2.2.2.2.1 s.2.2.2.2.2.2.1 s.2.2.2.2.2.2.2.1 s.2.2.2.2.2.2.2.2.1 (3 : Int32)).bind fun o32 => (if o32 = 0 then ((f_X5_count N Vp s.1 s.2.2.1 s.2.2.2.1 s.2.2.2.2.1 s.2.2.2.2.2.1 s.2.2.2.2.2.2.1 s.2.2.2.2.2.2.2.1 s.2.2.2.2.2.2.2.2.1 (9 : Int32)).bind fun o35 => (if o35 = (s.2.2.2.2.2.2.2.2.2.2.1 + s.2.2.2.2.2.2.2.2.2.1) then b_L_stops_183 N Vp Vn Vm Vh Vk0 Vk1 Vk2 Vk3 Vk4 Vk5 ρ p1 (s.1, s.2.1, s.2.2.1, s.2.2.2.1, s.2.2.2.2.1, s.2.2.2.2.2.1, s.2.2.2.2.2.2.1, s.2.2.2.2.2.2.2.1, s.2.2.2.2.2.2.2.2.1, s.2.2.2.2.2.2.2.2.2.1, s.2.2.2.2.2.2.2.2.2.2.2, (1 : Int32)) else b_L_stops_182 N Vp Vn Vm Vh Vk0 Vk1 Vk2 Vk3 Vk4 Vk5 ρ p1 (s.1, s.2.1, s.2.2.1, s.2.2.2.1, s.2.2.2.2.1, s.2.2.2.2.2.1, s.2.2.2.2.2.2.1, s.2.2.2.2.2.2.2.1, s.2.2.2.2.2.2.2.2.1, s.2.2.2.2.2.2.2.2.2.1, s.2.2.2.2.2.2.2.2.2.2.2))) else b_L_stops_182 N Vp Vn Vm Vh Vk0 Vk1 Vk2 Vk3 Vk4 Vk5 ρ p1 (s.1, s.2.1, s.2.2.1, s.2.2.2.1, s.2.2.2.2.1, s.2.2.2.2.2.1, s.2.2.2.2.2.2.1, s.2.2.2.2.2.2.2.1, s.2.2.2.2.2.2.2.2.1, s.2.2.2.2.2.2.2.2.2.1, s.2.2.2.2.2.2.2.2.2.2.2))) else b_L_stops_182 N Vp Vn Vm Vh Vk0 Vk1 Vk2 Vk3 Vk4 Vk5 ρ p1 (s.1, s.2.1, s.2.2.1, s.2.2.2.1, s.2.2.2.2.1, s.2.2.2.2.2.1, s.2.2.2.2.2.2.1, s.2.2.2.2.2.2.2.1, s.2.2.2.2.2.2.2.2.1, s.2.2.2.2.2.2.2.2.2.1, s.2.2.2.2.2.2.2.2.2.2.2)))
def b_L_stops_124 (N : Nat) (Vp : Pd) (Vn : St) (Vm : St) (Vh : Hb) (Vk0 : St) (Vk1 : St) (Vk2 : St) (Vk3 : St) (Vk4 : St) (Vk5 : St) (ρ : Nat → Option Ru) (p1 : Int32) (s : St × St × Hb × St × St × St × St × St × St × Int32 × Int32 × Int32 × Int32) : Option (Int32 × St × St × Hb × St × St × St × St × St × St) := ((f_X5_count N Vp s.1 s.2.2.1 s.2.2.2.1 s.2.2.2.2.1 s.2.2.2.2.2.1 s.2.2.2.2.2.2.1 s.2.2.2.2.2.2.2.1 s.2.2.2.2.2.2.2.2.1 (4 : Int32)).bind fun o38 => (if o38 = (2 : Int32) then b_L_stops_148 N Vp Vn Vm Vh Vk0 Vk1 Vk2 Vk3 Vk4 Vk5 ρ p1 (s.1, s.2.1, s.2.2.1, s.2.2.2.1, s.2.2.2.2.1, s.2.2.2.2.2.1, s.2.2.2.2.2.2.1, s.2.2.2.2.2.2.2.1, s.2.2.2.2.2.2.2.2.1, s.2.2.2.2.2.2.2.2.2.1, s.2.2.2.2.2.2.2.2.2.2.2.1, s.2.2.2.2.2.2.2.2.2.2.2.2) else ((ρ s.1.2.2.2.2.2.2.1).bind fun R41 => ((f_X5_pass N s.1 s.2.2.1 s.2.2.2.1 s.2.2.2.2.1 s.2.2.2.2.2.1 s.2.2.2.2.2.2.1 s.2.2.2.2.2.2.2.1 s.2.2.2.2.2.2.2.2.1 R41 ((1 : Int32) + s.2.2.2.2.2.2.2.2.2.2.1)).bind fun o44 => (if 0 ≤ o44.1 then b_L_stops_148 N Vp Vn Vm Vh Vk0 Vk1 Vk2 Vk3 Vk4 Vk5 ρ p1 (o44.2.1, s.2.1, o44.2.2.1, o44.2.2.2.1, o44.2.2.2.2.1, o44.2.2.2.2.2.1, o44.2.2.2.2.2.2.1, o44.2.2.2.2.2.2.2.1, o44.2.2.2.2.2.2.2.2, s.2.2.2.2.2.2.2.2.2.1, s.2.2.2.2.2.2.2.2.2.2.2.1, (s.2.2.2.2.2.2.2.2.2.2.2.2 + (1 : Int32))) else some ((0 : Int32), o44.2.1, s.2.1, o44.2.2.1, o44.2.2.2.1, o44.2.2.2.2.1, o44.2.2.2.2.2.1, o44.2.2.2.2.2.2.1, o44.2.2.2.2.2.2.2.1, o44.2.2.2.2.2.2.2.2))))))
def b_L_stops_119 (N : Nat) (Vp : Pd) (Vn : St) (Vm : St) (Vh : Hb) (Vk0 : St) (Vk1 : St) (Vk2 : St) (Vk3 : St) (Vk4 : St) (Vk5 : St) (ρ : Nat → Option Ru) (p1 : Int32) (s : St × St × Hb × St × St × St × St × St × St) : Option (Int32 × St × St × Hb × St × St × St × St × St × St) := some ((0 : Int32), s.1, s.2.1, s.2.2.1, s.2.2.2.1, s.2.2.2.2.1, s.2.2.2.2.2.1, s.2.2.2.2.2.2.1, s.2.2.2.2.2.2.2.1, s.2.2.2.2.2.2.2.2)
def b_L_stops_32 (N : Nat) (Vp : Pd) (Vn : St) (Vm : St) (Vh : Hb) (Vk0 : St) (Vk1 : St) (Vk2 : St) (Vk3 : St) (Vk4 : St) (Vk5 : St) (ρ : Nat → Option Ru) (p1 : Int32) (s : St × Int32 × Int32 × Int32 × Int32) : Option (Int32 × St × St × Hb × St × St × St × St × St × St) := (if s.2.2.2.2 = 0 then b_L_stops_124 N Vp Vn Vm Vh Vk0 Vk1 Vk2 Vk3 Vk4 Vk5 ρ p1 (Vn, s.1, Vh, Vk0, Vk1, Vk2, Vk3, Vk4, Vk5, s.2.1, s.2.2.1, s.2.2.2.1, (0 : Int32)) else ((f_X5_count N Vp Vn Vh Vk0 Vk1 Vk2 Vk3 Vk4 Vk5 (7 : Int32)).bind fun o48 => ((f_X5_stop N Vn Vh Vk0 Vk1 Vk2 Vk3 Vk4 Vk5).bind fun o50 => (if o50.1 = s.2.2.1 then ((f_X5_count N Vp o50.2.1 o50.2.2.1 o50.2.2.2.1 o50.2.2.2.2.1 o50.2.2.2.2.2.1 o50.2.2.2.2.2.2.1 o50.2.2.2.2.2.2.2.1 o50.2.2.2.2.2.2.2.2 (7 : Int32)).bind fun o53 => (if o53 = (o48 + (1 : Int32)) then ((f_X5_ofStop o50.2.1 (0 : Int32) (0 : Int32)).bind fun o56 => ((f_X5_count N Vp o50.2.1 o50.2.2.1 o50.2.2.2.1 o50.2.2.2.2.1 o50.2.2.2.2.2.1 o50.2.2.2.2.2.2.1 o50.2.2.2.2.2.2.2.1 o50.2.2.2.2.2.2.2.2 (0 : Int32)).bind fun o58 => (if o56 = o58 then ((f_X5_ofStop o50.2.1 (0 : Int32) (1 : Int32)).bind fun o61 => (if o61 = s.2.2.1 then ((f_X5_ofStop o50.2.1 (0 : Int32) (2 : Int32)).bind fun o64 => ((f_X5_count N Vp o50.2.1 o50.2.2.1 o50.2.2.2.1 o50.2.2.2.2.1 o50.2.2.2.2.2.1 o50.2.2.2.2.2.2.1 o50.2.2.2.2.2.2.2.1 o50.2.2.2.2.2.2.2.2 (2 : Int32)).bind fun o66 => (if o64 = o66 then ((f_X5_ofStop o50.2.1 (0 : Int32) (4 : Int32)).bind fun o69 => (if o69 = (1 : Int32) then b_L_stops_124 N Vp Vn Vm Vh Vk0 Vk1 Vk2 Vk3 Vk4 Vk5 ρ p1 (o50.2.1, s.1, o50.2.2.1, o50.2.2.2.1, o50.2.2.2.2.1, o50.2.2.2.2.2.1, o50.2.2.2.2.2.2.1, o50.2.2.2.2.2.2.2.1, o50.2.2.2.2.2.2.2.2, s.2.1, s.2.2.1, s.2.2.2.1, ((0 : Int32) + (1 : Int32))) else b_L_stops_119 N Vp Vn Vm Vh Vk0 Vk1 Vk2 Vk3 Vk4 Vk5 ρ p1 (o50.2.1, s.1, o50.2.2.1, o50.2.2.2.1, o50.2.2.2.2.1, o50.2.2.2.2.2.1, o50.2.2.2.2.2.2.1, o50.2.2.2.2.2.2.2.1, o50.2.2.2.2.2.2.2.2))) else b_L_stops_119 N Vp Vn Vm Vh Vk0 Vk1 Vk2 Vk3 Vk4 Vk5 ρ p1 (o50.2.1, s.1, o50.2.2.1, o50.2.2.2.1, o50.2.2.2.2.1, o50.2.2.2.2.2.1, o50.2.2.2.2.2.2.1, o50.2.2.2.2.2.2.2.1, o50.2.2.2.2.2.2.2.2)))) else b_L_stops_119 N Vp Vn Vm Vh Vk0 Vk1 Vk2 Vk3 Vk4 Vk5 ρ p1 (o50.2.1, s.1, o50.2.2.1, o50.2.2.2.1, o50.2.2.2.2.1, o50.2.2.2.2.2.1, o50.2.2.2.2.2.2.1, o50.2.2.2.2.2.2.2.1, o50.2.2.2.2.2.2.2.2))) else b_L_stops_119 N Vp Vn Vm Vh Vk0 Vk1 Vk2 Vk3 Vk4 Vk5 ρ p1 (o50.2.1, s.1, o50.2.2.1, o50.2.2.2.1, o50.2.2.2.2.1, o50.2.2.2.2.2.1, o50.2.2.2.2.2.2.1, o50.2.2.2.2.2.2.2.1, o50.2.2.2.2.2.2.2.2)))) else b_L_stops_119 N Vp Vn Vm Vh Vk0 Vk1 Vk2 Vk3 Vk4 Vk5 ρ p1 (o50.2.1, s.1, o50.2.2.1, o50.2.2.2.1, o50.2.2.2.2.1, o50.2.2.2.2.2.1, o50.2.2.2.2.2.2.1, o50.2.2.2.2.2.2.2.1, o50.2.2.2.2.2.2.2.2))) else b_L_stops_119 N Vp Vn Vm Vh Vk0 Vk1 Vk2 Vk3 Vk4 Vk5 ρ p1 (o50.2.1, s.1, o50.2.2.1, o50.2.2.2.1, o50.2.2.2.2.1, o50.2.2.2.2.2.1, o50.2.2.2.2.2.2.1, o50.2.2.2.2.2.2.2.1, o50.2.2.2.2.2.2.2.2)))))
def f_L_stops (N : Nat) (Vp : Pd) (Vn : St) (Vm : St) (Vh : Hb) (Vk0 : St) (Vk1 : St) (Vk2 : St) (Vk3 : St) (Vk4 : St) (Vk5 : St) (ρ : Nat → Option Ru) (p1 : Int32) : Option (Int32 × St × St × Hb × St × St × St × St × St × St) := ((f_X5_way N Vn Vm).bind fun o72 => ((f_X5_count N Vp Vn Vh Vk0 Vk1 Vk2 Vk3 Vk4 Vk5 (3 : Int32)).bind fun o74 => ((f_X5_count N Vp Vn Vh Vk0 Vk1 Vk2 Vk3 Vk4 Vk5 (9 : Int32)).bind fun o76 => ((f_X5_count N Vp Vn Vh Vk0 Vk1 Vk2 Vk3 Vk4 Vk5 (4 : Int32)).bind fun o78 => (if o78 = 0 then b_L_stops_32 N Vp Vn Vm Vh Vk0 Vk1 Vk2 Vk3 Vk4 Vk5 ρ p1 (o72.2, o72.1, o74, o76, (1 : Int32)) else b_L_stops_32 N Vp Vn Vm Vh Vk0 Vk1 Vk2 Vk3 Vk4 Vk5 ρ p1 (o72.2, o72.1, o74, o76, (0 : Int32)))))))
abbrev rm_L_stops : Room := { frames := 6, cells := 0, slots := 0, locals := 138 }
set_option maxRecDepth 100000 in
theorem k_L_stops : CFs yL_stops cL_stops 11 (some .boolean) 2 := ⟨mt_602, mt_0, mt_603, ⟨by decide +kernel, by decide +kernel, by decide +kernel⟩⟩
set_option maxHeartbeats 4000000 in
set_option maxRecDepth 100000 in
theorem c_L_stops {E : Ev} {ex1 : Nat} {ex5 : Nat} {ex6 : Nat} {ax : Nat → Nat} {ap : Nat → Nat} {Vp : Pd} {an : Nat → Nat} {Vn : St} {am : Nat → Nat} {Vm : St} {ah : Nat → Nat} {Vh : Hb} {ak0 : Nat → Nat} {Vk0 : St} {ak1 : Nat → Nat} {Vk1 : St} {ak2 : Nat → Nat} {Vk2 : St} {ak3 : Nat → Nat} {Vk3 : St} {ak4 : Nat → Nat} {Vk4 : St} {ak5 : Nat → Nat} {Vk5 : St} {gu : va_W} {ρ : Nat → Option Ru} (hgu : ∀ r R, ρ r = some R → RIn E gu r R) {p1 : Int32} {N : Nat} {o : Int32 × St × St × Hb × St × St × St × St × St × St} (hf : f_L_stops N Vp Vn Vm Vh Vk0 Vk1 Vk2 Vk3 Vk4 Vk5 ρ p1 = some o) : ∀ l, MG l yL_stops cL_stops 11 (some .boolean) rm_L_stops E [.ref (ax 0), .int p1] [xo E ax (ap 0) ex1 (an 0) (am 0) (ah 0) ex5 ex6, pd E ap Vp, sc E an Vn, sc E am Vm, hb E ah (ak0 0) (ak1 0) (ak2 0) (ak3 0) (ak4 0) (ak5 0) Vh, sc E ak0 Vk0, sc E ak1 Vk1, sc E ak2 Vk2, sc E ak3 Vk3, sc E ak4 Vk4, sc E ak5 Vk5, gu] (fun v Y => v = some (.int o.1) ∧ Y = [xo E ax (ap 0) ex1 (an 0) (am 0) (ah 0) ex5 ex6, pd E ap Vp, sc E an o.2.1, sc E am o.2.2.1, hb E ah (ak0 0) (ak1 0) (ak2 0) (ak3 0) (ak4 0) (ak5 0) o.2.2.2.1, sc E ak0 o.2.2.2.2.1, sc E ak1 o.2.2.2.2.2.1, sc E ak2 o.2.2.2.2.2.2.1, sc E ak3 o.2.2.2.2.2.2.2.1, sc E ak4 o.2.2.2.2.2.2.2.2.1, sc E ak5 o.2.2.2.2.2.2.2.2.2, gu]) := by
  refine MG.mk (own := RL) (lv0 := [(0, .ref (ax 0)), (1, .int p1)]) (by decide) rfl (Nat.le_of_ble_eq_true rfl) rfl (fun X C K I => ?_)
  have h327 : ∀ s : St × St × Hb × St × St × St × St × St × St × Int32, b_L_stops_327 N Vp Vn Vm Vh Vk0 Vk1 Vk2 Vk3 Vk4 Vk5 ρ p1 s = some o → G E X 11 [xo E ax (ap 0) ex1 (an 0) (am 0) (ah 0) ex5 ex6, pd E ap Vp, sc E an s.1, sc E am s.2.1, hb E ah (ak0 0) (ak1 0) (ak2 0) (ak3 0) (ak4 0) (ak5 0) s.2.2.1, sc E ak0 s.2.2.2.1, sc E ak1 s.2.2.2.2.1, sc E ak2 s.2.2.2.2.2.1, sc E ak3 s.2.2.2.2.2.2.1, sc E ak4 s.2.2.2.2.2.2.2.1, sc E ak5 s.2.2.2.2.2.2.2.2.1, gu] 0 0 [] [.int s.2.2.2.2.2.2.2.2.2] 327 := by
    intro s hf
    unfold b_L_stops_327 at hf
    obtain ⟨z1, hf⟩ := zb_s hf
    obtain rfl := Option.some.inj hf
    exact g_zret C K z1 dL_stops_327 (Nat.le_of_ble_eq_true rfl) (Nat.le_of_ble_eq_true rfl) ⟨rfl, rfl⟩
  have h326 : ∀ s : St × St × Hb × St × St × St × St × St × St, b_L_stops_326 N Vp Vn Vm Vh Vk0 Vk1 Vk2 Vk3 Vk4 Vk5 ρ p1 s = some o → G E X 11 [xo E ax (ap 0) ex1 (an 0) (am 0) (ah 0) ex5 ex6, pd E ap Vp, sc E an s.1, sc E am s.2.1, hb E ah (ak0 0) (ak1 0) (ak2 0) (ak3 0) (ak4 0) (ak5 0) s.2.2.1, sc E ak0 s.2.2.2.1, sc E ak1 s.2.2.2.2.1, sc E ak2 s.2.2.2.2.2.1, sc E ak3 s.2.2.2.2.2.2.1, sc E ak4 s.2.2.2.2.2.2.2.1, sc E ak5 s.2.2.2.2.2.2.2.2, gu] 0 0 [] [] 326 := by
    intro s hf
    unfold b_L_stops_326 at hf
    refine g_iconst (v := (0 : Int32)) C dL_stops_326 (by decide) ?_
    exact h327 (s.1, s.2.1, s.2.2.1, s.2.2.2.1, s.2.2.2.2.1, s.2.2.2.2.2.1, s.2.2.2.2.2.2.1, s.2.2.2.2.2.2.2.1, s.2.2.2.2.2.2.2.2, (0 : Int32)) hf
  have h300 : ∀ s : St × St × Hb × St × St × St × St × St × St × Int32 × Int32, b_L_stops_300 N Vp Vn Vm Vh Vk0 Vk1 Vk2 Vk3 Vk4 Vk5 ρ p1 s = some o → G E X 11 [xo E ax (ap 0) ex1 (an 0) (am 0) (ah 0) ex5 ex6, pd E ap Vp, sc E an s.1, sc E am s.2.1, hb E ah (ak0 0) (ak1 0) (ak2 0) (ak3 0) (ak4 0) (ak5 0) s.2.2.1, sc E ak0 s.2.2.2.1, sc E ak1 s.2.2.2.2.1, sc E ak2 s.2.2.2.2.2.1, sc E ak3 s.2.2.2.2.2.2.1, sc E ak4 s.2.2.2.2.2.2.2.1, sc E ak5 s.2.2.2.2.2.2.2.2.1, gu] 0 0 [(0, .ref (ax 0)), (2, .int s.2.2.2.2.2.2.2.2.2.1)] [.int s.2.2.2.2.2.2.2.2.2.2] 300 := by
    intro s hf
    unfold b_L_stops_300 at hf
    refine g_istore (lv2 := [(7, .int s.2.2.2.2.2.2.2.2.2.2), (0, .ref (ax 0)), (2, .int s.2.2.2.2.2.2.2.2.2.1)]) C dL_stops_300 (by decide) rfl ?_
    refine g_iload C dL_stops_302 0 rfl ?_
    refine g_if_eq (tgt := 326) C dL_stops_304 (by decide) (fun c2 => ?_) (fun c2 => ?_)
    · have hf := (f_if hf).1 c2
      refine g_sub (lv2 := []) [] rfl ?_
      exact h326 (s.1, s.2.1, s.2.2.1, s.2.2.2.1, s.2.2.2.2.1, s.2.2.2.2.2.1, s.2.2.2.2.2.2.1, s.2.2.2.2.2.2.2.1, s.2.2.2.2.2.2.2.2.1) hf
    · have hf := (f_if hf).2 c2
      refine g_aload_n C dL_stops_307 rfl 1 rfl ?_
      obtain ⟨o3, hq4, hf⟩ := bind_s hf
      refine g_callV (As := []) (rest := []) C k_X5_undo (fun l => c_X5_undo (E := E) (ax := ax) (ex0 := (ap 0)) (ex1 := ex1) (ex3 := (am 0)) (ex5 := ex5) (ex6 := ex6) (an := an) (Vn := s.1) (ah := ah) (Vh := s.2.2.1) (ak0 := ak0) (Vk0 := s.2.2.2.1) (ak1 := ak1) (Vk1 := s.2.2.2.2.1) (ak2 := ak2) (Vk2 := s.2.2.2.2.2.1) (ak3 := ak3) (Vk3 := s.2.2.2.2.2.2.1) (ak4 := ak4) (Vk4 := s.2.2.2.2.2.2.2.1) (ak5 := ak5) (Vk5 := s.2.2.2.2.2.2.2.2.1) hq4 l) mt_613 [0, 2, 4, 5, 6, 7, 8, 9, 10] rfl (by decide) ⟨_, _, _, _, List.mem_flatten.mpr ⟨_, List.mem_of_getElem? (i := 0) rfl, List.mem_of_getElem? (i := 0) rfl⟩, rfl⟩ rfl (Nat.le_of_ble_eq_true rfl) ⟨Nat.le_of_ble_eq_true rfl, Nat.le_of_ble_eq_true rfl, Nat.le_of_ble_eq_true rfl, Nat.le_of_ble_eq_true rfl⟩ dL_stops_308 ?_
      rintro _ _ ⟨rfl, rfl⟩
      show G E X 11 [xo E ax (ap 0) ex1 (an 0) (am 0) (ah 0) ex5 ex6, pd E ap Vp, sc E an o3.2.1, sc E am s.2.1, hb E ah (ak0 0) (ak1 0) (ak2 0) (ak3 0) (ak4 0) (ak5 0) o3.2.2, sc E ak0 s.2.2.2.1, sc E ak1 s.2.2.2.2.1, sc E ak2 s.2.2.2.2.2.1, sc E ak3 s.2.2.2.2.2.2.1, sc E ak4 s.2.2.2.2.2.2.2.1, sc E ak5 s.2.2.2.2.2.2.2.2.1, gu] 0 0 [(7, .int s.2.2.2.2.2.2.2.2.2.2), (0, .ref (ax 0)), (2, .int s.2.2.2.2.2.2.2.2.2.1)] [.int o3.1] 311
      refine g_if_lt (tgt := 326) C dL_stops_311 (by decide) (fun c5 => ?_) (fun c5 => ?_)
      · have hf := (f_if hf).1 c5
        refine g_sub (lv2 := []) [] rfl ?_
        exact h326 (o3.2.1, s.2.1, o3.2.2, s.2.2.2.1, s.2.2.2.2.1, s.2.2.2.2.2.1, s.2.2.2.2.2.2.1, s.2.2.2.2.2.2.2.1, s.2.2.2.2.2.2.2.2.1) hf
      · have hf := (f_if hf).2 c5
        refine g_aload_n C dL_stops_314 rfl 1 rfl ?_
        obtain ⟨o6, hq7, hf⟩ := bind_s hf
        refine g_callV (As := []) (rest := []) C k_X5_way (fun l => c_X5_way (E := E) (ax := ax) (ex0 := (ap 0)) (ex1 := ex1) (ex4 := (ah 0)) (ex5 := ex5) (ex6 := ex6) (an := an) (Vn := o3.2.1) (am := am) (Vm := s.2.1) hq7 l) mt_472 [0, 2, 3] rfl (by decide) ⟨_, _, _, _, List.mem_flatten.mpr ⟨_, List.mem_of_getElem? (i := 0) rfl, List.mem_of_getElem? (i := 0) rfl⟩, rfl⟩ rfl (Nat.le_of_ble_eq_true rfl) ⟨Nat.le_of_ble_eq_true rfl, Nat.le_of_ble_eq_true rfl, Nat.le_of_ble_eq_true rfl, Nat.le_of_ble_eq_true rfl⟩ dL_stops_315 ?_
        rintro _ _ ⟨rfl, rfl⟩
        show G E X 11 [xo E ax (ap 0) ex1 (an 0) (am 0) (ah 0) ex5 ex6, pd E ap Vp, sc E an o3.2.1, sc E am o6.2, hb E ah (ak0 0) (ak1 0) (ak2 0) (ak3 0) (ak4 0) (ak5 0) o3.2.2, sc E ak0 s.2.2.2.1, sc E ak1 s.2.2.2.2.1, sc E ak2 s.2.2.2.2.2.1, sc E ak3 s.2.2.2.2.2.2.1, sc E ak4 s.2.2.2.2.2.2.2.1, sc E ak5 s.2.2.2.2.2.2.2.2.1, gu] 0 0 [(7, .int s.2.2.2.2.2.2.2.2.2.2), (0, .ref (ax 0)), (2, .int s.2.2.2.2.2.2.2.2.2.1)] [.int o6.1] 318
        refine g_iload_n C dL_stops_318 rfl 2 rfl ?_
        refine g_icmp_ne (tgt := 326) C dL_stops_319 (by decide) (fun c8 => ?_) (fun c8 => ?_)
        · have hf := (f_if hf).2 c8
          refine g_sub (lv2 := []) [] rfl ?_
          exact h326 (o3.2.1, o6.2, o3.2.2, s.2.2.2.1, s.2.2.2.2.1, s.2.2.2.2.2.1, s.2.2.2.2.2.2.1, s.2.2.2.2.2.2.2.1, s.2.2.2.2.2.2.2.2.1) hf
        · have hf := (f_if hf).1 c8
          refine g_iconst (v := (1 : Int32)) C dL_stops_322 (by decide) ?_
          refine g_goto (tgt := 327) C dL_stops_323 (by decide) ?_
          refine g_sub (lv2 := []) [] rfl ?_
          exact h327 (o3.2.1, o6.2, o3.2.2, s.2.2.2.1, s.2.2.2.2.1, s.2.2.2.2.2.1, s.2.2.2.2.2.2.1, s.2.2.2.2.2.2.2.1, s.2.2.2.2.2.2.2.2.1, (1 : Int32)) hf
  have h299 : ∀ s : St × St × Hb × St × St × St × St × St × St × Int32, b_L_stops_299 N Vp Vn Vm Vh Vk0 Vk1 Vk2 Vk3 Vk4 Vk5 ρ p1 s = some o → G E X 11 [xo E ax (ap 0) ex1 (an 0) (am 0) (ah 0) ex5 ex6, pd E ap Vp, sc E an s.1, sc E am s.2.1, hb E ah (ak0 0) (ak1 0) (ak2 0) (ak3 0) (ak4 0) (ak5 0) s.2.2.1, sc E ak0 s.2.2.2.1, sc E ak1 s.2.2.2.2.1, sc E ak2 s.2.2.2.2.2.1, sc E ak3 s.2.2.2.2.2.2.1, sc E ak4 s.2.2.2.2.2.2.2.1, sc E ak5 s.2.2.2.2.2.2.2.2.1, gu] 0 0 [(0, .ref (ax 0)), (2, .int s.2.2.2.2.2.2.2.2.2)] [] 299 := by
    intro s hf
    unfold b_L_stops_299 at hf
    refine g_iconst (v := (0 : Int32)) C dL_stops_299 (by decide) ?_
    exact h300 (s.1, s.2.1, s.2.2.1, s.2.2.2.1, s.2.2.2.2.1, s.2.2.2.2.2.1, s.2.2.2.2.2.2.1, s.2.2.2.2.2.2.2.1, s.2.2.2.2.2.2.2.2.1, s.2.2.2.2.2.2.2.2.2, (0 : Int32)) hf
  have h295 : ∀ s : St × St × Hb × St × St × St × St × St × St × Int32, b_L_stops_295 N Vp Vn Vm Vh Vk0 Vk1 Vk2 Vk3 Vk4 Vk5 ρ p1 s = some o → G E X 11 [xo E ax (ap 0) ex1 (an 0) (am 0) (ah 0) ex5 ex6, pd E ap Vp, sc E an s.1, sc E am s.2.1, hb E ah (ak0 0) (ak1 0) (ak2 0) (ak3 0) (ak4 0) (ak5 0) s.2.2.1, sc E ak0 s.2.2.2.1, sc E ak1 s.2.2.2.2.1, sc E ak2 s.2.2.2.2.2.1, sc E ak3 s.2.2.2.2.2.2.1, sc E ak4 s.2.2.2.2.2.2.2.1, sc E ak5 s.2.2.2.2.2.2.2.2.1, gu] 0 0 [(0, .ref (ax 0)), (2, .int s.2.2.2.2.2.2.2.2.2)] [] 295 := by
    intro s hf
    unfold b_L_stops_295 at hf
    refine g_iconst (v := (1 : Int32)) C dL_stops_295 (by decide) ?_
    refine g_goto (tgt := 300) C dL_stops_296 (by decide) ?_
    exact h300 (s.1, s.2.1, s.2.2.1, s.2.2.2.1, s.2.2.2.2.1, s.2.2.2.2.2.1, s.2.2.2.2.2.2.1, s.2.2.2.2.2.2.2.1, s.2.2.2.2.2.2.2.2.1, s.2.2.2.2.2.2.2.2.2, (1 : Int32)) hf
  have h212 : ∀ (K188 : (St × St × Hb × St × St × St × St × St × St × Int32 × Int32 × Int32 × Int32) → Option (Int32 × St × St × Hb × St × St × St × St × St × St)), (∀ s : St × St × Hb × St × St × St × St × St × St × Int32 × Int32 × Int32 × Int32, K188 s = some o → G E X 11 [xo E ax (ap 0) ex1 (an 0) (am 0) (ah 0) ex5 ex6, pd E ap Vp, sc E an s.1, sc E am s.2.1, hb E ah (ak0 0) (ak1 0) (ak2 0) (ak3 0) (ak4 0) (ak5 0) s.2.2.1, sc E ak0 s.2.2.2.1, sc E ak1 s.2.2.2.2.1, sc E ak2 s.2.2.2.2.2.1, sc E ak3 s.2.2.2.2.2.2.1, sc E ak4 s.2.2.2.2.2.2.2.1, sc E ak5 s.2.2.2.2.2.2.2.2.1, gu] 0 0 [(0, .ref (ax 0)), (1, .int p1), (2, .int s.2.2.2.2.2.2.2.2.2.1), (6, .int s.2.2.2.2.2.2.2.2.2.2.1), (7, .int s.2.2.2.2.2.2.2.2.2.2.2.1), (8, .int s.2.2.2.2.2.2.2.2.2.2.2.2)] [] 188) → ∀ s : St × St × Hb × St × St × St × St × St × St × Int32 × Int32 × Int32 × Int32, b_L_stops_212 N Vp Vn Vm Vh Vk0 Vk1 Vk2 Vk3 Vk4 Vk5 ρ p1 K188 s = some o → G E X 11 [xo E ax (ap 0) ex1 (an 0) (am 0) (ah 0) ex5 ex6, pd E ap Vp, sc E an s.1, sc E am s.2.1, hb E ah (ak0 0) (ak1 0) (ak2 0) (ak3 0) (ak4 0) (ak5 0) s.2.2.1, sc E ak0 s.2.2.2.1, sc E ak1 s.2.2.2.2.1, sc E ak2 s.2.2.2.2.2.1, sc E ak3 s.2.2.2.2.2.2.1, sc E ak4 s.2.2.2.2.2.2.2.1, sc E ak5 s.2.2.2.2.2.2.2.2.1, gu] 0 0 [(0, .ref (ax 0)), (1, .int p1), (2, .int s.2.2.2.2.2.2.2.2.2.1), (6, .int s.2.2.2.2.2.2.2.2.2.2.1), (8, .int s.2.2.2.2.2.2.2.2.2.2.2.1)] [.int s.2.2.2.2.2.2.2.2.2.2.2.2] 212 := by
    intro K188 hK188 s hf
    unfold b_L_stops_212 at hf
    refine g_istore (lv2 := [(7, .int s.2.2.2.2.2.2.2.2.2.2.2.2), (0, .ref (ax 0)), (1, .int p1), (2, .int s.2.2.2.2.2.2.2.2.2.1), (6, .int s.2.2.2.2.2.2.2.2.2.2.1), (8, .int s.2.2.2.2.2.2.2.2.2.2.2.1)]) C dL_stops_212 (by decide) rfl ?_
    refine g_iinc (v := (s.2.2.2.2.2.2.2.2.2.2.2.1 + (1 : Int32))) (lv2 := [(8, .int (s.2.2.2.2.2.2.2.2.2.2.2.1 + (1 : Int32))), (7, .int s.2.2.2.2.2.2.2.2.2.2.2.2), (0, .ref (ax 0)), (1, .int p1), (2, .int s.2.2.2.2.2.2.2.2.2.1), (6, .int s.2.2.2.2.2.2.2.2.2.2.1)]) C dL_stops_214 5 rfl (ii (by decide)) (by decide) rfl ?_
    refine g_goto (tgt := 188) C dL_stops_217 (by decide) ?_
    refine g_sub (lv2 := [(0, .ref (ax 0)), (1, .int p1), (2, .int s.2.2.2.2.2.2.2.2.2.1), (6, .int s.2.2.2.2.2.2.2.2.2.2.1), (7, .int s.2.2.2.2.2.2.2.2.2.2.2.2), (8, .int (s.2.2.2.2.2.2.2.2.2.2.2.1 + (1 : Int32)))]) [2, 3, 4, 5, 1, 0] rfl ?_
    exact hK188 (s.1, s.2.1, s.2.2.1, s.2.2.2.1, s.2.2.2.2.1, s.2.2.2.2.2.1, s.2.2.2.2.2.2.1, s.2.2.2.2.2.2.2.1, s.2.2.2.2.2.2.2.2.1, s.2.2.2.2.2.2.2.2.2.1, s.2.2.2.2.2.2.2.2.2.2.1, s.2.2.2.2.2.2.2.2.2.2.2.2, (s.2.2.2.2.2.2.2.2.2.2.2.1 + (1 : Int32))) hf
  have h211 : ∀ (K188 : (St × St × Hb × St × St × St × St × St × St × Int32 × Int32 × Int32 × Int32) → Option (Int32 × St × St × Hb × St × St × St × St × St × St)), (∀ s : St × St × Hb × St × St × St × St × St × St × Int32 × Int32 × Int32 × Int32, K188 s = some o → G E X 11 [xo E ax (ap 0) ex1 (an 0) (am 0) (ah 0) ex5 ex6, pd E ap Vp, sc E an s.1, sc E am s.2.1, hb E ah (ak0 0) (ak1 0) (ak2 0) (ak3 0) (ak4 0) (ak5 0) s.2.2.1, sc E ak0 s.2.2.2.1, sc E ak1 s.2.2.2.2.1, sc E ak2 s.2.2.2.2.2.1, sc E ak3 s.2.2.2.2.2.2.1, sc E ak4 s.2.2.2.2.2.2.2.1, sc E ak5 s.2.2.2.2.2.2.2.2.1, gu] 0 0 [(0, .ref (ax 0)), (1, .int p1), (2, .int s.2.2.2.2.2.2.2.2.2.1), (6, .int s.2.2.2.2.2.2.2.2.2.2.1), (7, .int s.2.2.2.2.2.2.2.2.2.2.2.1), (8, .int s.2.2.2.2.2.2.2.2.2.2.2.2)] [] 188) → ∀ s : St × St × Hb × St × St × St × St × St × St × Int32 × Int32 × Int32, b_L_stops_211 N Vp Vn Vm Vh Vk0 Vk1 Vk2 Vk3 Vk4 Vk5 ρ p1 K188 s = some o → G E X 11 [xo E ax (ap 0) ex1 (an 0) (am 0) (ah 0) ex5 ex6, pd E ap Vp, sc E an s.1, sc E am s.2.1, hb E ah (ak0 0) (ak1 0) (ak2 0) (ak3 0) (ak4 0) (ak5 0) s.2.2.1, sc E ak0 s.2.2.2.1, sc E ak1 s.2.2.2.2.1, sc E ak2 s.2.2.2.2.2.1, sc E ak3 s.2.2.2.2.2.2.1, sc E ak4 s.2.2.2.2.2.2.2.1, sc E ak5 s.2.2.2.2.2.2.2.2.1, gu] 0 0 [(0, .ref (ax 0)), (1, .int p1), (2, .int s.2.2.2.2.2.2.2.2.2.1), (6, .int s.2.2.2.2.2.2.2.2.2.2.1), (8, .int s.2.2.2.2.2.2.2.2.2.2.2)] [] 211 := by
    intro K188 hK188 s hf
    unfold b_L_stops_211 at hf
    refine g_iconst (v := (0 : Int32)) C dL_stops_211 (by decide) ?_
    exact h212 K188 hK188 (s.1, s.2.1, s.2.2.1, s.2.2.2.1, s.2.2.2.2.1, s.2.2.2.2.2.1, s.2.2.2.2.2.2.1, s.2.2.2.2.2.2.2.1, s.2.2.2.2.2.2.2.2.1, s.2.2.2.2.2.2.2.2.2.1, s.2.2.2.2.2.2.2.2.2.2.1, s.2.2.2.2.2.2.2.2.2.2.2, (0 : Int32)) hf
  have h188 : ∀ (n : Nat) (s : St × St × Hb × St × St × St × St × St × St × Int32 × Int32 × Int32 × Int32), lp (b_L_stops_188 N Vp Vn Vm Vh Vk0 Vk1 Vk2 Vk3 Vk4 Vk5 ρ p1) n s = some o → G E X 11 [xo E ax (ap 0) ex1 (an 0) (am 0) (ah 0) ex5 ex6, pd E ap Vp, sc E an s.1, sc E am s.2.1, hb E ah (ak0 0) (ak1 0) (ak2 0) (ak3 0) (ak4 0) (ak5 0) s.2.2.1, sc E ak0 s.2.2.2.1, sc E ak1 s.2.2.2.2.1, sc E ak2 s.2.2.2.2.2.1, sc E ak3 s.2.2.2.2.2.2.1, sc E ak4 s.2.2.2.2.2.2.2.1, sc E ak5 s.2.2.2.2.2.2.2.2.1, gu] 0 0 [(0, .ref (ax 0)), (1, .int p1), (2, .int s.2.2.2.2.2.2.2.2.2.1), (6, .int s.2.2.2.2.2.2.2.2.2.2.1), (7, .int s.2.2.2.2.2.2.2.2.2.2.2.1), (8, .int s.2.2.2.2.2.2.2.2.2.2.2.2)] [] 188 := by
    refine lp_ind ?_
    intro K188 hK188 s hf
    unfold b_L_stops_188 at hf
    refine g_iload C dL_stops_188 5 rfl ?_
    refine g_iload C dL_stops_190 3 rfl ?_
    refine g_icmp_ge (tgt := 220) C dL_stops_192 (by decide) (fun c9 => ?_) (fun c9 => ?_)
    · have hf := (f_if hf).1 c9
      refine g_aload_n C dL_stops_220 rfl 0 rfl ?_
      refine g_iload_n C dL_stops_221 rfl 2 rfl ?_
      obtain ⟨o10, hq11, hf⟩ := bind_s hf
      refine g_callV (As := [.int s.2.2.2.2.2.2.2.2.2.1]) (rest := []) C k_X5_leastRamp (fun l => c_X5_leastRamp (E := E) (ax := ax) (ex0 := (ap 0)) (ex1 := ex1) (ex4 := (ah 0)) (ex5 := ex5) (ex6 := ex6) (an := an) (Vn := s.1) (am := am) (Vm := s.2.1) hq11 l) mt_621 [0, 2, 3] rfl (by decide) ⟨_, _, _, _, List.mem_flatten.mpr ⟨_, List.mem_of_getElem? (i := 0) rfl, List.mem_of_getElem? (i := 0) rfl⟩, rfl⟩ rfl (Nat.le_of_ble_eq_true rfl) ⟨Nat.le_of_ble_eq_true rfl, Nat.le_of_ble_eq_true rfl, Nat.le_of_ble_eq_true rfl, Nat.le_of_ble_eq_true rfl⟩ dL_stops_222 ?_
      rintro _ _ ⟨rfl, rfl⟩
      show G E X 11 [xo E ax (ap 0) ex1 (an 0) (am 0) (ah 0) ex5 ex6, pd E ap Vp, sc E an s.1, sc E am o10.2, hb E ah (ak0 0) (ak1 0) (ak2 0) (ak3 0) (ak4 0) (ak5 0) s.2.2.1, sc E ak0 s.2.2.2.1, sc E ak1 s.2.2.2.2.1, sc E ak2 s.2.2.2.2.2.1, sc E ak3 s.2.2.2.2.2.2.1, sc E ak4 s.2.2.2.2.2.2.2.1, sc E ak5 s.2.2.2.2.2.2.2.2.1, gu] 0 0 [(0, .ref (ax 0)), (1, .int p1), (2, .int s.2.2.2.2.2.2.2.2.2.1), (6, .int s.2.2.2.2.2.2.2.2.2.2.1), (7, .int s.2.2.2.2.2.2.2.2.2.2.2.1), (8, .int s.2.2.2.2.2.2.2.2.2.2.2.2)] [.int o10.1] 225
      refine g_istore (lv2 := [(8, .int o10.1), (0, .ref (ax 0)), (1, .int p1), (2, .int s.2.2.2.2.2.2.2.2.2.1), (6, .int s.2.2.2.2.2.2.2.2.2.2.1), (7, .int s.2.2.2.2.2.2.2.2.2.2.2.1)]) C dL_stops_225 (by decide) rfl ?_
      refine g_iconst (v := (1 : Int32)) C dL_stops_227 (by decide) ?_
      refine g_iload_n C dL_stops_228 rfl 2 rfl ?_
      refine g_bipush (v := (30 : Int32)) C dL_stops_229 (by decide) ?_
      obtain ⟨o12, hq13, hf⟩ := bind_s hf
      refine g_callS (As := [.int p1, .int (30 : Int32)]) (rest := [.int (1 : Int32)]) C k_L_low (fun l => c_L_low (E := E) hq13 l) mt_526 [] rfl (by decide) rfl (Nat.le_of_ble_eq_true rfl) ⟨Nat.le_of_ble_eq_true rfl, Nat.le_of_ble_eq_true rfl, Nat.le_of_ble_eq_true rfl, Nat.le_of_ble_eq_true rfl⟩ dL_stops_231 ?_
      rintro _ _ ⟨rfl, rfl⟩
      show G E X 11 [xo E ax (ap 0) ex1 (an 0) (am 0) (ah 0) ex5 ex6, pd E ap Vp, sc E an s.1, sc E am o10.2, hb E ah (ak0 0) (ak1 0) (ak2 0) (ak3 0) (ak4 0) (ak5 0) s.2.2.1, sc E ak0 s.2.2.2.1, sc E ak1 s.2.2.2.2.1, sc E ak2 s.2.2.2.2.2.1, sc E ak3 s.2.2.2.2.2.2.1, sc E ak4 s.2.2.2.2.2.2.2.1, sc E ak5 s.2.2.2.2.2.2.2.2.1, gu] 0 0 [(8, .int o10.1), (0, .ref (ax 0)), (1, .int p1), (2, .int s.2.2.2.2.2.2.2.2.2.1), (6, .int s.2.2.2.2.2.2.2.2.2.2.1), (7, .int s.2.2.2.2.2.2.2.2.2.2.2.1)] [.int o12, .int (1 : Int32)] 234
      refine g_iadd C dL_stops_234 ?_
      refine g_istore (lv2 := [(9, .int ((1 : Int32) + o12)), (8, .int o10.1), (0, .ref (ax 0)), (1, .int p1), (2, .int s.2.2.2.2.2.2.2.2.2.1), (6, .int s.2.2.2.2.2.2.2.2.2.2.1), (7, .int s.2.2.2.2.2.2.2.2.2.2.2.1)]) C dL_stops_235 (by decide) rfl ?_
      refine g_aload_n C dL_stops_237 rfl 2 rfl ?_
      refine g_iconst (v := (2 : Int32)) C dL_stops_238 (by decide) ?_
      refine g_iload C dL_stops_239 0 rfl ?_
      obtain ⟨o14, hq15, hf⟩ := bind_s hf
      refine g_callV (As := [.int (2 : Int32), .int ((1 : Int32) + o12)]) (rest := []) C k_X5_set (fun l => c_X5_set (E := E) (ax := ax) (ex0 := (ap 0)) (ex1 := ex1) (ex3 := (am 0)) (ex5 := ex5) (ex6 := ex6) (an := an) (Vn := s.1) (ah := ah) (Vh := s.2.2.1) (ak0 := ak0) (Vk0 := s.2.2.2.1) (ak1 := ak1) (Vk1 := s.2.2.2.2.1) (ak2 := ak2) (Vk2 := s.2.2.2.2.2.1) (ak3 := ak3) (Vk3 := s.2.2.2.2.2.2.1) (ak4 := ak4) (Vk4 := s.2.2.2.2.2.2.2.1) (ak5 := ak5) (Vk5 := s.2.2.2.2.2.2.2.2.1) hq15 l) mt_319 [0, 2, 4, 5, 6, 7, 8, 9, 10] rfl (by decide) ⟨_, _, _, _, List.mem_flatten.mpr ⟨_, List.mem_of_getElem? (i := 0) rfl, List.mem_of_getElem? (i := 0) rfl⟩, rfl⟩ rfl (Nat.le_of_ble_eq_true rfl) ⟨Nat.le_of_ble_eq_true rfl, Nat.le_of_ble_eq_true rfl, Nat.le_of_ble_eq_true rfl, Nat.le_of_ble_eq_true rfl⟩ dL_stops_241 ?_
      rintro _ _ ⟨rfl, rfl⟩
      show G E X 11 [xo E ax (ap 0) ex1 (an 0) (am 0) (ah 0) ex5 ex6, pd E ap Vp, sc E an o14.2.1, sc E am o10.2, hb E ah (ak0 0) (ak1 0) (ak2 0) (ak3 0) (ak4 0) (ak5 0) o14.2.2.1, sc E ak0 o14.2.2.2.1, sc E ak1 o14.2.2.2.2.1, sc E ak2 o14.2.2.2.2.2.1, sc E ak3 o14.2.2.2.2.2.2.1, sc E ak4 o14.2.2.2.2.2.2.2.1, sc E ak5 o14.2.2.2.2.2.2.2.2, gu] 0 0 [(9, .int ((1 : Int32) + o12)), (8, .int o10.1), (0, .ref (ax 0)), (1, .int p1), (2, .int s.2.2.2.2.2.2.2.2.2.1), (6, .int s.2.2.2.2.2.2.2.2.2.2.1), (7, .int s.2.2.2.2.2.2.2.2.2.2.2.1)] [.int o14.1] 244
      refine g_istore (lv2 := [(10, .int o14.1), (9, .int ((1 : Int32) + o12)), (8, .int o10.1), (0, .ref (ax 0)), (1, .int p1), (2, .int s.2.2.2.2.2.2.2.2.2.1), (6, .int s.2.2.2.2.2.2.2.2.2.2.1), (7, .int s.2.2.2.2.2.2.2.2.2.2.2.1)]) C dL_stops_244 (by decide) rfl ?_
      refine g_iload C dL_stops_246 7 rfl ?_
      refine g_if_eq (tgt := 299) C dL_stops_248 (by decide) (fun c16 => ?_) (fun c16 => ?_)
      · have hf := (f_if hf).1 c16
        refine g_sub (lv2 := [(0, .ref (ax 0)), (2, .int s.2.2.2.2.2.2.2.2.2.1)]) [3, 5] rfl ?_
        exact h299 (o14.2.1, o10.2, o14.2.2.1, o14.2.2.2.1, o14.2.2.2.2.1, o14.2.2.2.2.2.1, o14.2.2.2.2.2.2.1, o14.2.2.2.2.2.2.2.1, o14.2.2.2.2.2.2.2.2, s.2.2.2.2.2.2.2.2.2.1) hf
      · have hf := (f_if hf).2 c16
        refine g_iload C dL_stops_251 0 rfl ?_
        refine g_iconst (v := (1 : Int32)) C dL_stops_253 (by decide) ?_
        refine g_icmp_lt (tgt := 299) C dL_stops_254 (by decide) (fun c17 => ?_) (fun c17 => ?_)
        · have hf := (f_if hf).1 c17
          refine g_sub (lv2 := [(0, .ref (ax 0)), (2, .int s.2.2.2.2.2.2.2.2.2.1)]) [3, 5] rfl ?_
          exact h299 (o14.2.1, o10.2, o14.2.2.1, o14.2.2.2.1, o14.2.2.2.2.1, o14.2.2.2.2.2.1, o14.2.2.2.2.2.2.1, o14.2.2.2.2.2.2.2.1, o14.2.2.2.2.2.2.2.2, s.2.2.2.2.2.2.2.2.2.1) hf
        · have hf := (f_if hf).2 c17
          refine g_iload C dL_stops_257 2 rfl ?_
          refine g_iconst (v := (1 : Int32)) C dL_stops_259 (by decide) ?_
          refine g_icmp_lt (tgt := 299) C dL_stops_260 (by decide) (fun c18 => ?_) (fun c18 => ?_)
          · have hf := (f_if hf).1 c18
            refine g_sub (lv2 := [(0, .ref (ax 0)), (2, .int s.2.2.2.2.2.2.2.2.2.1)]) [3, 5] rfl ?_
            exact h299 (o14.2.1, o10.2, o14.2.2.1, o14.2.2.2.1, o14.2.2.2.2.1, o14.2.2.2.2.2.1, o14.2.2.2.2.2.2.1, o14.2.2.2.2.2.2.2.1, o14.2.2.2.2.2.2.2.2, s.2.2.2.2.2.2.2.2.2.1) hf
          · have hf := (f_if hf).2 c18
            refine g_iload C dL_stops_263 2 rfl ?_
            refine g_iload C dL_stops_265 0 rfl ?_
            refine g_icmp_gt (tgt := 299) C dL_stops_267 (by decide) (fun c19 => ?_) (fun c19 => ?_)
            · have hf := (f_if hf).1 c19
              refine g_sub (lv2 := [(0, .ref (ax 0)), (2, .int s.2.2.2.2.2.2.2.2.2.1)]) [3, 5] rfl ?_
              exact h299 (o14.2.1, o10.2, o14.2.2.1, o14.2.2.2.1, o14.2.2.2.2.1, o14.2.2.2.2.2.1, o14.2.2.2.2.2.2.1, o14.2.2.2.2.2.2.2.1, o14.2.2.2.2.2.2.2.2, s.2.2.2.2.2.2.2.2.2.1) hf
            · have hf := (f_if hf).2 c19
              refine g_aload_n C dL_stops_270 rfl 3 rfl ?_
              obtain ⟨o20, hq21, hf⟩ := bind_s hf
              refine g_callV (As := []) (rest := []) C k_X5_way (fun l => c_X5_way (E := E) (ax := ax) (ex0 := (ap 0)) (ex1 := ex1) (ex4 := (ah 0)) (ex5 := ex5) (ex6 := ex6) (an := an) (Vn := o14.2.1) (am := am) (Vm := o10.2) hq21 l) mt_472 [0, 2, 3] rfl (by decide) ⟨_, _, _, _, List.mem_flatten.mpr ⟨_, List.mem_of_getElem? (i := 0) rfl, List.mem_of_getElem? (i := 0) rfl⟩, rfl⟩ rfl (Nat.le_of_ble_eq_true rfl) ⟨Nat.le_of_ble_eq_true rfl, Nat.le_of_ble_eq_true rfl, Nat.le_of_ble_eq_true rfl, Nat.le_of_ble_eq_true rfl⟩ dL_stops_271 ?_
              rintro _ _ ⟨rfl, rfl⟩
              show G E X 11 [xo E ax (ap 0) ex1 (an 0) (am 0) (ah 0) ex5 ex6, pd E ap Vp, sc E an o14.2.1, sc E am o20.2, hb E ah (ak0 0) (ak1 0) (ak2 0) (ak3 0) (ak4 0) (ak5 0) o14.2.2.1, sc E ak0 o14.2.2.2.1, sc E ak1 o14.2.2.2.2.1, sc E ak2 o14.2.2.2.2.2.1, sc E ak3 o14.2.2.2.2.2.2.1, sc E ak4 o14.2.2.2.2.2.2.2.1, sc E ak5 o14.2.2.2.2.2.2.2.2, gu] 0 0 [(10, .int o14.1), (9, .int ((1 : Int32) + o12)), (8, .int o10.1), (0, .ref (ax 0)), (1, .int p1), (2, .int s.2.2.2.2.2.2.2.2.2.1), (6, .int s.2.2.2.2.2.2.2.2.2.2.1), (7, .int s.2.2.2.2.2.2.2.2.2.2.2.1)] [.int o20.1] 274
              refine g_iload_n C dL_stops_274 rfl 5 rfl ?_
              refine g_icmp_gt (tgt := 288) C dL_stops_275 (by decide) (fun c22 => ?_) (fun c22 => ?_)
              · have hf := (f_if hf).1 c22
                refine g_iload C dL_stops_288 1 rfl ?_
                refine g_iload C dL_stops_290 2 rfl ?_
                refine g_icmp_eq (tgt := 299) C dL_stops_292 (by decide) (fun c23 => ?_) (fun c23 => ?_)
                · have hf := (f_if hf).1 c23
                  refine g_sub (lv2 := [(0, .ref (ax 0)), (2, .int s.2.2.2.2.2.2.2.2.2.1)]) [3, 5] rfl ?_
                  exact h299 (o14.2.1, o20.2, o14.2.2.1, o14.2.2.2.1, o14.2.2.2.2.1, o14.2.2.2.2.2.1, o14.2.2.2.2.2.2.1, o14.2.2.2.2.2.2.2.1, o14.2.2.2.2.2.2.2.2, s.2.2.2.2.2.2.2.2.2.1) hf
                · have hf := (f_if hf).2 c23
                  refine g_sub (lv2 := [(0, .ref (ax 0)), (2, .int s.2.2.2.2.2.2.2.2.2.1)]) [3, 5] rfl ?_
                  exact h295 (o14.2.1, o20.2, o14.2.2.1, o14.2.2.2.1, o14.2.2.2.2.1, o14.2.2.2.2.2.1, o14.2.2.2.2.2.2.1, o14.2.2.2.2.2.2.2.1, o14.2.2.2.2.2.2.2.2, s.2.2.2.2.2.2.2.2.2.1) hf
              · have hf := (f_if hf).2 c22
                refine g_iload C dL_stops_278 1 rfl ?_
                refine g_iload C dL_stops_280 2 rfl ?_
                refine g_icmp_lt (tgt := 299) C dL_stops_282 (by decide) (fun c24 => ?_) (fun c24 => ?_)
                · have hf := (f_if hf).1 c24
                  refine g_sub (lv2 := [(0, .ref (ax 0)), (2, .int s.2.2.2.2.2.2.2.2.2.1)]) [3, 5] rfl ?_
                  exact h299 (o14.2.1, o20.2, o14.2.2.1, o14.2.2.2.1, o14.2.2.2.2.1, o14.2.2.2.2.2.1, o14.2.2.2.2.2.2.1, o14.2.2.2.2.2.2.2.1, o14.2.2.2.2.2.2.2.2, s.2.2.2.2.2.2.2.2.2.1) hf
                · have hf := (f_if hf).2 c24
                  refine g_goto (tgt := 295) C dL_stops_285 (by decide) ?_
                  refine g_sub (lv2 := [(0, .ref (ax 0)), (2, .int s.2.2.2.2.2.2.2.2.2.1)]) [3, 5] rfl ?_
                  exact h295 (o14.2.1, o20.2, o14.2.2.1, o14.2.2.2.1, o14.2.2.2.2.1, o14.2.2.2.2.2.1, o14.2.2.2.2.2.2.1, o14.2.2.2.2.2.2.2.1, o14.2.2.2.2.2.2.2.2, s.2.2.2.2.2.2.2.2.2.1) hf
    · have hf := (f_if hf).2 c9
      refine g_iload C dL_stops_195 4 rfl ?_
      refine g_if_eq (tgt := 211) C dL_stops_197 (by decide) (fun c25 => ?_) (fun c25 => ?_)
      · have hf := (f_if hf).1 c25
        refine g_sub (lv2 := [(0, .ref (ax 0)), (1, .int p1), (2, .int s.2.2.2.2.2.2.2.2.2.1), (6, .int s.2.2.2.2.2.2.2.2.2.2.1), (8, .int s.2.2.2.2.2.2.2.2.2.2.2.2)]) [0, 1, 2, 3, 5] rfl ?_
        exact h211 K188 hK188 (s.1, s.2.1, s.2.2.1, s.2.2.2.1, s.2.2.2.2.1, s.2.2.2.2.2.1, s.2.2.2.2.2.2.1, s.2.2.2.2.2.2.2.1, s.2.2.2.2.2.2.2.2.1, s.2.2.2.2.2.2.2.2.2.1, s.2.2.2.2.2.2.2.2.2.2.1, s.2.2.2.2.2.2.2.2.2.2.2.2) hf
      · have hf := (f_if hf).2 c25
        refine g_aload_n C dL_stops_200 rfl 0 rfl ?_
        obtain ⟨o26, hq27, hf⟩ := bind_s hf
        refine g_callV (As := []) (rest := []) C k_X5_undo (fun l => c_X5_undo (E := E) (ax := ax) (ex0 := (ap 0)) (ex1 := ex1) (ex3 := (am 0)) (ex5 := ex5) (ex6 := ex6) (an := an) (Vn := s.1) (ah := ah) (Vh := s.2.2.1) (ak0 := ak0) (Vk0 := s.2.2.2.1) (ak1 := ak1) (Vk1 := s.2.2.2.2.1) (ak2 := ak2) (Vk2 := s.2.2.2.2.2.1) (ak3 := ak3) (Vk3 := s.2.2.2.2.2.2.1) (ak4 := ak4) (Vk4 := s.2.2.2.2.2.2.2.1) (ak5 := ak5) (Vk5 := s.2.2.2.2.2.2.2.2.1) hq27 l) mt_613 [0, 2, 4, 5, 6, 7, 8, 9, 10] rfl (by decide) ⟨_, _, _, _, List.mem_flatten.mpr ⟨_, List.mem_of_getElem? (i := 0) rfl, List.mem_of_getElem? (i := 0) rfl⟩, rfl⟩ rfl (Nat.le_of_ble_eq_true rfl) ⟨Nat.le_of_ble_eq_true rfl, Nat.le_of_ble_eq_true rfl, Nat.le_of_ble_eq_true rfl, Nat.le_of_ble_eq_true rfl⟩ dL_stops_201 ?_
        rintro _ _ ⟨rfl, rfl⟩
        show G E X 11 [xo E ax (ap 0) ex1 (an 0) (am 0) (ah 0) ex5 ex6, pd E ap Vp, sc E an o26.2.1, sc E am s.2.1, hb E ah (ak0 0) (ak1 0) (ak2 0) (ak3 0) (ak4 0) (ak5 0) o26.2.2, sc E ak0 s.2.2.2.1, sc E ak1 s.2.2.2.2.1, sc E ak2 s.2.2.2.2.2.1, sc E ak3 s.2.2.2.2.2.2.1, sc E ak4 s.2.2.2.2.2.2.2.1, sc E ak5 s.2.2.2.2.2.2.2.2.1, gu] 0 0 [(0, .ref (ax 0)), (1, .int p1), (2, .int s.2.2.2.2.2.2.2.2.2.1), (6, .int s.2.2.2.2.2.2.2.2.2.2.1), (7, .int s.2.2.2.2.2.2.2.2.2.2.2.1), (8, .int s.2.2.2.2.2.2.2.2.2.2.2.2)] [.int o26.1] 204
        refine g_if_lt (tgt := 211) C dL_stops_204 (by decide) (fun c28 => ?_) (fun c28 => ?_)
        · have hf := (f_if hf).1 c28
          refine g_sub (lv2 := [(0, .ref (ax 0)), (1, .int p1), (2, .int s.2.2.2.2.2.2.2.2.2.1), (6, .int s.2.2.2.2.2.2.2.2.2.2.1), (8, .int s.2.2.2.2.2.2.2.2.2.2.2.2)]) [0, 1, 2, 3, 5] rfl ?_
          exact h211 K188 hK188 (o26.2.1, s.2.1, o26.2.2, s.2.2.2.1, s.2.2.2.2.1, s.2.2.2.2.2.1, s.2.2.2.2.2.2.1, s.2.2.2.2.2.2.2.1, s.2.2.2.2.2.2.2.2.1, s.2.2.2.2.2.2.2.2.2.1, s.2.2.2.2.2.2.2.2.2.2.1, s.2.2.2.2.2.2.2.2.2.2.2.2) hf
        · have hf := (f_if hf).2 c28
          refine g_iconst (v := (1 : Int32)) C dL_stops_207 (by decide) ?_
          refine g_goto (tgt := 212) C dL_stops_208 (by decide) ?_
          refine g_sub (lv2 := [(0, .ref (ax 0)), (1, .int p1), (2, .int s.2.2.2.2.2.2.2.2.2.1), (6, .int s.2.2.2.2.2.2.2.2.2.2.1), (8, .int s.2.2.2.2.2.2.2.2.2.2.2.2)]) [0, 1, 2, 3, 5] rfl ?_
          exact h212 K188 hK188 (o26.2.1, s.2.1, o26.2.2, s.2.2.2.1, s.2.2.2.2.1, s.2.2.2.2.2.1, s.2.2.2.2.2.2.1, s.2.2.2.2.2.2.2.1, s.2.2.2.2.2.2.2.2.1, s.2.2.2.2.2.2.2.2.2.1, s.2.2.2.2.2.2.2.2.2.2.1, s.2.2.2.2.2.2.2.2.2.2.2.2, (1 : Int32)) hf
  have h183 : ∀ s : St × St × Hb × St × St × St × St × St × St × Int32 × Int32 × Int32, b_L_stops_183 N Vp Vn Vm Vh Vk0 Vk1 Vk2 Vk3 Vk4 Vk5 ρ p1 s = some o → G E X 11 [xo E ax (ap 0) ex1 (an 0) (am 0) (ah 0) ex5 ex6, pd E ap Vp, sc E an s.1, sc E am s.2.1, hb E ah (ak0 0) (ak1 0) (ak2 0) (ak3 0) (ak4 0) (ak5 0) s.2.2.1, sc E ak0 s.2.2.2.1, sc E ak1 s.2.2.2.2.1, sc E ak2 s.2.2.2.2.2.1, sc E ak3 s.2.2.2.2.2.2.1, sc E ak4 s.2.2.2.2.2.2.2.1, sc E ak5 s.2.2.2.2.2.2.2.2.1, gu] 0 0 [(0, .ref (ax 0)), (1, .int p1), (2, .int s.2.2.2.2.2.2.2.2.2.1), (6, .int s.2.2.2.2.2.2.2.2.2.2.1)] [.int s.2.2.2.2.2.2.2.2.2.2.2] 183 := by
    intro s hf
    unfold b_L_stops_183 at hf
    refine g_istore (lv2 := [(7, .int s.2.2.2.2.2.2.2.2.2.2.2), (0, .ref (ax 0)), (1, .int p1), (2, .int s.2.2.2.2.2.2.2.2.2.1), (6, .int s.2.2.2.2.2.2.2.2.2.2.1)]) C dL_stops_183 (by decide) rfl ?_
    refine g_iconst (v := (0 : Int32)) C dL_stops_185 (by decide) ?_
    refine g_istore (lv2 := [(8, .int (0 : Int32)), (7, .int s.2.2.2.2.2.2.2.2.2.2.2), (0, .ref (ax 0)), (1, .int p1), (2, .int s.2.2.2.2.2.2.2.2.2.1), (6, .int s.2.2.2.2.2.2.2.2.2.2.1)]) C dL_stops_186 (by decide) rfl ?_
    refine g_sub (lv2 := [(0, .ref (ax 0)), (1, .int p1), (2, .int s.2.2.2.2.2.2.2.2.2.1), (6, .int s.2.2.2.2.2.2.2.2.2.2.1), (7, .int s.2.2.2.2.2.2.2.2.2.2.2), (8, .int (0 : Int32))]) [2, 3, 4, 5, 1, 0] rfl ?_
    exact h188 N (s.1, s.2.1, s.2.2.1, s.2.2.2.1, s.2.2.2.2.1, s.2.2.2.2.2.1, s.2.2.2.2.2.2.1, s.2.2.2.2.2.2.2.1, s.2.2.2.2.2.2.2.2.1, s.2.2.2.2.2.2.2.2.2.1, s.2.2.2.2.2.2.2.2.2.2.1, s.2.2.2.2.2.2.2.2.2.2.2, (0 : Int32)) hf
  have h182 : ∀ s : St × St × Hb × St × St × St × St × St × St × Int32 × Int32, b_L_stops_182 N Vp Vn Vm Vh Vk0 Vk1 Vk2 Vk3 Vk4 Vk5 ρ p1 s = some o → G E X 11 [xo E ax (ap 0) ex1 (an 0) (am 0) (ah 0) ex5 ex6, pd E ap Vp, sc E an s.1, sc E am s.2.1, hb E ah (ak0 0) (ak1 0) (ak2 0) (ak3 0) (ak4 0) (ak5 0) s.2.2.1, sc E ak0 s.2.2.2.1, sc E ak1 s.2.2.2.2.1, sc E ak2 s.2.2.2.2.2.1, sc E ak3 s.2.2.2.2.2.2.1, sc E ak4 s.2.2.2.2.2.2.2.1, sc E ak5 s.2.2.2.2.2.2.2.2.1, gu] 0 0 [(0, .ref (ax 0)), (1, .int p1), (2, .int s.2.2.2.2.2.2.2.2.2.1), (6, .int s.2.2.2.2.2.2.2.2.2.2)] [] 182 := by
    intro s hf
    unfold b_L_stops_182 at hf
    refine g_iconst (v := (0 : Int32)) C dL_stops_182 (by decide) ?_
    exact h183 (s.1, s.2.1, s.2.2.1, s.2.2.2.1, s.2.2.2.2.1, s.2.2.2.2.2.1, s.2.2.2.2.2.2.1, s.2.2.2.2.2.2.2.1, s.2.2.2.2.2.2.2.2.1, s.2.2.2.2.2.2.2.2.2.1, s.2.2.2.2.2.2.2.2.2.2, (0 : Int32)) hf
  have h148 : ∀ s : St × St × Hb × St × St × St × St × St × St × Int32 × Int32 × Int32, b_L_stops_148 N Vp Vn Vm Vh Vk0 Vk1 Vk2 Vk3 Vk4 Vk5 ρ p1 s = some o → G E X 11 [xo E ax (ap 0) ex1 (an 0) (am 0) (ah 0) ex5 ex6, pd E ap Vp, sc E an s.1, sc E am s.2.1, hb E ah (ak0 0) (ak1 0) (ak2 0) (ak3 0) (ak4 0) (ak5 0) s.2.2.1, sc E ak0 s.2.2.2.1, sc E ak1 s.2.2.2.2.1, sc E ak2 s.2.2.2.2.2.1, sc E ak3 s.2.2.2.2.2.2.1, sc E ak4 s.2.2.2.2.2.2.2.1, sc E ak5 s.2.2.2.2.2.2.2.2.1, gu] 0 0 [(0, .ref (ax 0)), (1, .int p1), (2, .int s.2.2.2.2.2.2.2.2.2.1), (4, .int s.2.2.2.2.2.2.2.2.2.2.1), (6, .int s.2.2.2.2.2.2.2.2.2.2.2)] [] 148 := by
    intro s hf
    unfold b_L_stops_148 at hf
    refine g_aload_n C dL_stops_148 rfl 0 rfl ?_
    refine g_iconst (v := (4 : Int32)) C dL_stops_149 (by decide) ?_
    obtain ⟨o29, hq30, hf⟩ := bind_s hf
    refine g_callV (As := [.int (4 : Int32)]) (rest := []) C k_X5_count (fun l => c_X5_count (E := E) (ax := ax) (ex1 := ex1) (ex3 := (am 0)) (ex5 := ex5) (ex6 := ex6) (ap := ap) (Vp := Vp) (an := an) (Vn := s.1) (ah := ah) (Vh := s.2.2.1) (ak0 := ak0) (Vk0 := s.2.2.2.1) (ak1 := ak1) (Vk1 := s.2.2.2.2.1) (ak2 := ak2) (Vk2 := s.2.2.2.2.2.1) (ak3 := ak3) (Vk3 := s.2.2.2.2.2.2.1) (ak4 := ak4) (Vk4 := s.2.2.2.2.2.2.2.1) (ak5 := ak5) (Vk5 := s.2.2.2.2.2.2.2.2.1) hq30 l) mt_460 [0, 1, 2, 4, 5, 6, 7, 8, 9, 10] rfl (by decide) ⟨_, _, _, _, List.mem_flatten.mpr ⟨_, List.mem_of_getElem? (i := 0) rfl, List.mem_of_getElem? (i := 0) rfl⟩, rfl⟩ rfl (Nat.le_of_ble_eq_true rfl) ⟨Nat.le_of_ble_eq_true rfl, Nat.le_of_ble_eq_true rfl, Nat.le_of_ble_eq_true rfl, Nat.le_of_ble_eq_true rfl⟩ dL_stops_150 ?_
    rintro _ _ ⟨rfl, rfl⟩
    show G E X 11 [xo E ax (ap 0) ex1 (an 0) (am 0) (ah 0) ex5 ex6, pd E ap Vp, sc E an s.1, sc E am s.2.1, hb E ah (ak0 0) (ak1 0) (ak2 0) (ak3 0) (ak4 0) (ak5 0) s.2.2.1, sc E ak0 s.2.2.2.1, sc E ak1 s.2.2.2.2.1, sc E ak2 s.2.2.2.2.2.1, sc E ak3 s.2.2.2.2.2.2.1, sc E ak4 s.2.2.2.2.2.2.2.1, sc E ak5 s.2.2.2.2.2.2.2.2.1, gu] 0 0 [(0, .ref (ax 0)), (1, .int p1), (2, .int s.2.2.2.2.2.2.2.2.2.1), (4, .int s.2.2.2.2.2.2.2.2.2.2.1), (6, .int s.2.2.2.2.2.2.2.2.2.2.2)] [.int o29] 153
    refine g_iconst (v := (2 : Int32)) C dL_stops_153 (by decide) ?_
    refine g_icmp_ne (tgt := 182) C dL_stops_154 (by decide) (fun c31 => ?_) (fun c31 => ?_)
    · have hf := (f_if hf).2 c31
      refine g_sub (lv2 := [(0, .ref (ax 0)), (1, .int p1), (2, .int s.2.2.2.2.2.2.2.2.2.1), (6, .int s.2.2.2.2.2.2.2.2.2.2.2)]) [0, 1, 2, 4] rfl ?_
      exact h182 (s.1, s.2.1, s.2.2.1, s.2.2.2.1, s.2.2.2.2.1, s.2.2.2.2.2.1, s.2.2.2.2.2.2.1, s.2.2.2.2.2.2.2.1, s.2.2.2.2.2.2.2.2.1, s.2.2.2.2.2.2.2.2.2.1, s.2.2.2.2.2.2.2.2.2.2.2) hf
    · have hf := (f_if hf).1 c31
      refine g_aload_n C dL_stops_157 rfl 0 rfl ?_
      refine g_iconst (v := (3 : Int32)) C dL_stops_158 (by decide) ?_
      obtain ⟨o32, hq33, hf⟩ := bind_s hf
      refine g_callV (As := [.int (3 : Int32)]) (rest := []) C k_X5_count (fun l => c_X5_count (E := E) (ax := ax) (ex1 := ex1) (ex3 := (am 0)) (ex5 := ex5) (ex6 := ex6) (ap := ap) (Vp := Vp) (an := an) (Vn := s.1) (ah := ah) (Vh := s.2.2.1) (ak0 := ak0) (Vk0 := s.2.2.2.1) (ak1 := ak1) (Vk1 := s.2.2.2.2.1) (ak2 := ak2) (Vk2 := s.2.2.2.2.2.1) (ak3 := ak3) (Vk3 := s.2.2.2.2.2.2.1) (ak4 := ak4) (Vk4 := s.2.2.2.2.2.2.2.1) (ak5 := ak5) (Vk5 := s.2.2.2.2.2.2.2.2.1) hq33 l) mt_460 [0, 1, 2, 4, 5, 6, 7, 8, 9, 10] rfl (by decide) ⟨_, _, _, _, List.mem_flatten.mpr ⟨_, List.mem_of_getElem? (i := 0) rfl, List.mem_of_getElem? (i := 0) rfl⟩, rfl⟩ rfl (Nat.le_of_ble_eq_true rfl) ⟨Nat.le_of_ble_eq_true rfl, Nat.le_of_ble_eq_true rfl, Nat.le_of_ble_eq_true rfl, Nat.le_of_ble_eq_true rfl⟩ dL_stops_159 ?_
      rintro _ _ ⟨rfl, rfl⟩
      show G E X 11 [xo E ax (ap 0) ex1 (an 0) (am 0) (ah 0) ex5 ex6, pd E ap Vp, sc E an s.1, sc E am s.2.1, hb E ah (ak0 0) (ak1 0) (ak2 0) (ak3 0) (ak4 0) (ak5 0) s.2.2.1, sc E ak0 s.2.2.2.1, sc E ak1 s.2.2.2.2.1, sc E ak2 s.2.2.2.2.2.1, sc E ak3 s.2.2.2.2.2.2.1, sc E ak4 s.2.2.2.2.2.2.2.1, sc E ak5 s.2.2.2.2.2.2.2.2.1, gu] 0 0 [(0, .ref (ax 0)), (1, .int p1), (2, .int s.2.2.2.2.2.2.2.2.2.1), (4, .int s.2.2.2.2.2.2.2.2.2.2.1), (6, .int s.2.2.2.2.2.2.2.2.2.2.2)] [.int o32] 162
      refine g_if_ne (tgt := 182) C dL_stops_162 (by decide) (fun c34 => ?_) (fun c34 => ?_)
      · have hf := (f_if hf).2 c34
        refine g_sub (lv2 := [(0, .ref (ax 0)), (1, .int p1), (2, .int s.2.2.2.2.2.2.2.2.2.1), (6, .int s.2.2.2.2.2.2.2.2.2.2.2)]) [0, 1, 2, 4] rfl ?_
        exact h182 (s.1, s.2.1, s.2.2.1, s.2.2.2.1, s.2.2.2.2.1, s.2.2.2.2.2.1, s.2.2.2.2.2.2.1, s.2.2.2.2.2.2.2.1, s.2.2.2.2.2.2.2.2.1, s.2.2.2.2.2.2.2.2.2.1, s.2.2.2.2.2.2.2.2.2.2.2) hf
      · have hf := (f_if hf).1 c34
        refine g_aload_n C dL_stops_165 rfl 0 rfl ?_
        refine g_bipush (v := (9 : Int32)) C dL_stops_166 (by decide) ?_
        obtain ⟨o35, hq36, hf⟩ := bind_s hf
        refine g_callV (As := [.int (9 : Int32)]) (rest := []) C k_X5_count (fun l => c_X5_count (E := E) (ax := ax) (ex1 := ex1) (ex3 := (am 0)) (ex5 := ex5) (ex6 := ex6) (ap := ap) (Vp := Vp) (an := an) (Vn := s.1) (ah := ah) (Vh := s.2.2.1) (ak0 := ak0) (Vk0 := s.2.2.2.1) (ak1 := ak1) (Vk1 := s.2.2.2.2.1) (ak2 := ak2) (Vk2 := s.2.2.2.2.2.1) (ak3 := ak3) (Vk3 := s.2.2.2.2.2.2.1) (ak4 := ak4) (Vk4 := s.2.2.2.2.2.2.2.1) (ak5 := ak5) (Vk5 := s.2.2.2.2.2.2.2.2.1) hq36 l) mt_460 [0, 1, 2, 4, 5, 6, 7, 8, 9, 10] rfl (by decide) ⟨_, _, _, _, List.mem_flatten.mpr ⟨_, List.mem_of_getElem? (i := 0) rfl, List.mem_of_getElem? (i := 0) rfl⟩, rfl⟩ rfl (Nat.le_of_ble_eq_true rfl) ⟨Nat.le_of_ble_eq_true rfl, Nat.le_of_ble_eq_true rfl, Nat.le_of_ble_eq_true rfl, Nat.le_of_ble_eq_true rfl⟩ dL_stops_168 ?_
        rintro _ _ ⟨rfl, rfl⟩
        show G E X 11 [xo E ax (ap 0) ex1 (an 0) (am 0) (ah 0) ex5 ex6, pd E ap Vp, sc E an s.1, sc E am s.2.1, hb E ah (ak0 0) (ak1 0) (ak2 0) (ak3 0) (ak4 0) (ak5 0) s.2.2.1, sc E ak0 s.2.2.2.1, sc E ak1 s.2.2.2.2.1, sc E ak2 s.2.2.2.2.2.1, sc E ak3 s.2.2.2.2.2.2.1, sc E ak4 s.2.2.2.2.2.2.2.1, sc E ak5 s.2.2.2.2.2.2.2.2.1, gu] 0 0 [(0, .ref (ax 0)), (1, .int p1), (2, .int s.2.2.2.2.2.2.2.2.2.1), (4, .int s.2.2.2.2.2.2.2.2.2.2.1), (6, .int s.2.2.2.2.2.2.2.2.2.2.2)] [.int o35] 171
        refine g_iload C dL_stops_171 3 rfl ?_
        refine g_iload_n C dL_stops_173 rfl 2 rfl ?_
        refine g_iadd C dL_stops_174 ?_
        refine g_icmp_ne (tgt := 182) C dL_stops_175 (by decide) (fun c37 => ?_) (fun c37 => ?_)
        · have hf := (f_if hf).2 c37
          refine g_sub (lv2 := [(0, .ref (ax 0)), (1, .int p1), (2, .int s.2.2.2.2.2.2.2.2.2.1), (6, .int s.2.2.2.2.2.2.2.2.2.2.2)]) [0, 1, 2, 4] rfl ?_
          exact h182 (s.1, s.2.1, s.2.2.1, s.2.2.2.1, s.2.2.2.2.1, s.2.2.2.2.2.1, s.2.2.2.2.2.2.1, s.2.2.2.2.2.2.2.1, s.2.2.2.2.2.2.2.2.1, s.2.2.2.2.2.2.2.2.2.1, s.2.2.2.2.2.2.2.2.2.2.2) hf
        · have hf := (f_if hf).1 c37
          refine g_iconst (v := (1 : Int32)) C dL_stops_178 (by decide) ?_
          refine g_goto (tgt := 183) C dL_stops_179 (by decide) ?_
          refine g_sub (lv2 := [(0, .ref (ax 0)), (1, .int p1), (2, .int s.2.2.2.2.2.2.2.2.2.1), (6, .int s.2.2.2.2.2.2.2.2.2.2.2)]) [0, 1, 2, 4] rfl ?_
          exact h183 (s.1, s.2.1, s.2.2.1, s.2.2.2.1, s.2.2.2.2.1, s.2.2.2.2.2.1, s.2.2.2.2.2.2.1, s.2.2.2.2.2.2.2.1, s.2.2.2.2.2.2.2.2.1, s.2.2.2.2.2.2.2.2.2.1, s.2.2.2.2.2.2.2.2.2.2.2, (1 : Int32)) hf
  have h124 : ∀ s : St × St × Hb × St × St × St × St × St × St × Int32 × Int32 × Int32 × Int32, b_L_stops_124 N Vp Vn Vm Vh Vk0 Vk1 Vk2 Vk3 Vk4 Vk5 ρ p1 s = some o → G E X 11 [xo E ax (ap 0) ex1 (an 0) (am 0) (ah 0) ex5 ex6, pd E ap Vp, sc E an s.1, sc E am s.2.1, hb E ah (ak0 0) (ak1 0) (ak2 0) (ak3 0) (ak4 0) (ak5 0) s.2.2.1, sc E ak0 s.2.2.2.1, sc E ak1 s.2.2.2.2.1, sc E ak2 s.2.2.2.2.2.1, sc E ak3 s.2.2.2.2.2.2.1, sc E ak4 s.2.2.2.2.2.2.2.1, sc E ak5 s.2.2.2.2.2.2.2.2.1, gu] 0 0 [(0, .ref (ax 0)), (1, .int p1), (2, .int s.2.2.2.2.2.2.2.2.2.1), (3, .int s.2.2.2.2.2.2.2.2.2.2.1), (4, .int s.2.2.2.2.2.2.2.2.2.2.2.1), (6, .int s.2.2.2.2.2.2.2.2.2.2.2.2)] [] 124 := by
    intro s hf
    unfold b_L_stops_124 at hf
    refine g_aload_n C dL_stops_124 rfl 0 rfl ?_
    refine g_iconst (v := (4 : Int32)) C dL_stops_125 (by decide) ?_
    obtain ⟨o38, hq39, hf⟩ := bind_s hf
    refine g_callV (As := [.int (4 : Int32)]) (rest := []) C k_X5_count (fun l => c_X5_count (E := E) (ax := ax) (ex1 := ex1) (ex3 := (am 0)) (ex5 := ex5) (ex6 := ex6) (ap := ap) (Vp := Vp) (an := an) (Vn := s.1) (ah := ah) (Vh := s.2.2.1) (ak0 := ak0) (Vk0 := s.2.2.2.1) (ak1 := ak1) (Vk1 := s.2.2.2.2.1) (ak2 := ak2) (Vk2 := s.2.2.2.2.2.1) (ak3 := ak3) (Vk3 := s.2.2.2.2.2.2.1) (ak4 := ak4) (Vk4 := s.2.2.2.2.2.2.2.1) (ak5 := ak5) (Vk5 := s.2.2.2.2.2.2.2.2.1) hq39 l) mt_460 [0, 1, 2, 4, 5, 6, 7, 8, 9, 10] rfl (by decide) ⟨_, _, _, _, List.mem_flatten.mpr ⟨_, List.mem_of_getElem? (i := 0) rfl, List.mem_of_getElem? (i := 0) rfl⟩, rfl⟩ rfl (Nat.le_of_ble_eq_true rfl) ⟨Nat.le_of_ble_eq_true rfl, Nat.le_of_ble_eq_true rfl, Nat.le_of_ble_eq_true rfl, Nat.le_of_ble_eq_true rfl⟩ dL_stops_126 ?_
    rintro _ _ ⟨rfl, rfl⟩
    show G E X 11 [xo E ax (ap 0) ex1 (an 0) (am 0) (ah 0) ex5 ex6, pd E ap Vp, sc E an s.1, sc E am s.2.1, hb E ah (ak0 0) (ak1 0) (ak2 0) (ak3 0) (ak4 0) (ak5 0) s.2.2.1, sc E ak0 s.2.2.2.1, sc E ak1 s.2.2.2.2.1, sc E ak2 s.2.2.2.2.2.1, sc E ak3 s.2.2.2.2.2.2.1, sc E ak4 s.2.2.2.2.2.2.2.1, sc E ak5 s.2.2.2.2.2.2.2.2.1, gu] 0 0 [(0, .ref (ax 0)), (1, .int p1), (2, .int s.2.2.2.2.2.2.2.2.2.1), (3, .int s.2.2.2.2.2.2.2.2.2.2.1), (4, .int s.2.2.2.2.2.2.2.2.2.2.2.1), (6, .int s.2.2.2.2.2.2.2.2.2.2.2.2)] [.int o38] 129
    refine g_iconst (v := (2 : Int32)) C dL_stops_129 (by decide) ?_
    refine g_icmp_eq (tgt := 148) C dL_stops_130 (by decide) (fun c40 => ?_) (fun c40 => ?_)
    · have hf := (f_if hf).1 c40
      refine g_sub (lv2 := [(0, .ref (ax 0)), (1, .int p1), (2, .int s.2.2.2.2.2.2.2.2.2.1), (4, .int s.2.2.2.2.2.2.2.2.2.2.2.1), (6, .int s.2.2.2.2.2.2.2.2.2.2.2.2)]) [0, 1, 2, 4, 5] rfl ?_
      exact h148 (s.1, s.2.1, s.2.2.1, s.2.2.2.1, s.2.2.2.2.1, s.2.2.2.2.2.1, s.2.2.2.2.2.2.1, s.2.2.2.2.2.2.2.1, s.2.2.2.2.2.2.2.2.1, s.2.2.2.2.2.2.2.2.2.1, s.2.2.2.2.2.2.2.2.2.2.2.1, s.2.2.2.2.2.2.2.2.2.2.2.2) hf
    · have hf := (f_if hf).2 c40
      refine g_aload_n C dL_stops_133 rfl 0 rfl ?_
      refine g_iconst (v := (1 : Int32)) C dL_stops_134 (by decide) ?_
      refine g_iload_n C dL_stops_135 rfl 3 rfl ?_
      refine g_iadd C dL_stops_136 ?_
      obtain ⟨R41, hq43, hf⟩ := bind_s hf
      obtain ⟨b42, ghq43⟩ := hgu _ _ hq43
      obtain ⟨o44, hq45, hf⟩ := bind_s hf
      refine g_callV (As := [.int ((1 : Int32) + s.2.2.2.2.2.2.2.2.2.2.1)]) (rest := []) C k_X5_pass (fun l => c_X5_pass (E := E) (ax := ax) (ex0 := (ap 0)) (ex1 := ex1) (ex3 := (am 0)) (ex5 := ex5) (ex6 := ex6) (an := an) (Vn := s.1) (ah := ah) (Vh := s.2.2.1) (ak0 := ak0) (Vk0 := s.2.2.2.1) (ak1 := ak1) (Vk1 := s.2.2.2.2.1) (ak2 := ak2) (Vk2 := s.2.2.2.2.2.1) (ak3 := ak3) (Vk3 := s.2.2.2.2.2.2.1) (ak4 := ak4) (Vk4 := s.2.2.2.2.2.2.2.1) (ak5 := ak5) (Vk5 := s.2.2.2.2.2.2.2.2.1) (gu := gu) (bu := b42) (Ru := R41) ghq43 hq45 l) mt_386 [0, 2, 4, 5, 6, 7, 8, 9, 10, 11] rfl (by decide) ⟨_, _, _, _, List.mem_flatten.mpr ⟨_, List.mem_of_getElem? (i := 0) rfl, List.mem_of_getElem? (i := 0) rfl⟩, rfl⟩ rfl (Nat.le_of_ble_eq_true rfl) ⟨Nat.le_of_ble_eq_true rfl, Nat.le_of_ble_eq_true rfl, Nat.le_of_ble_eq_true rfl, Nat.le_of_ble_eq_true rfl⟩ dL_stops_137 ?_
      rintro _ _ ⟨rfl, rfl⟩
      show G E X 11 [xo E ax (ap 0) ex1 (an 0) (am 0) (ah 0) ex5 ex6, pd E ap Vp, sc E an o44.2.1, sc E am s.2.1, hb E ah (ak0 0) (ak1 0) (ak2 0) (ak3 0) (ak4 0) (ak5 0) o44.2.2.1, sc E ak0 o44.2.2.2.1, sc E ak1 o44.2.2.2.2.1, sc E ak2 o44.2.2.2.2.2.1, sc E ak3 o44.2.2.2.2.2.2.1, sc E ak4 o44.2.2.2.2.2.2.2.1, sc E ak5 o44.2.2.2.2.2.2.2.2, gu] 0 0 [(0, .ref (ax 0)), (1, .int p1), (2, .int s.2.2.2.2.2.2.2.2.2.1), (3, .int s.2.2.2.2.2.2.2.2.2.2.1), (4, .int s.2.2.2.2.2.2.2.2.2.2.2.1), (6, .int s.2.2.2.2.2.2.2.2.2.2.2.2)] [.int o44.1] 140
      refine g_if_ge (tgt := 145) C dL_stops_140 (by decide) (fun c46 => ?_) (fun c46 => ?_)
      · have hf := (f_if hf).1 c46
        refine g_iinc (v := (s.2.2.2.2.2.2.2.2.2.2.2.2 + (1 : Int32))) (lv2 := [(6, .int (s.2.2.2.2.2.2.2.2.2.2.2.2 + (1 : Int32))), (0, .ref (ax 0)), (1, .int p1), (2, .int s.2.2.2.2.2.2.2.2.2.1), (3, .int s.2.2.2.2.2.2.2.2.2.2.1), (4, .int s.2.2.2.2.2.2.2.2.2.2.2.1)]) C dL_stops_145 5 rfl (ii (by decide)) (by decide) rfl ?_
        refine g_sub (lv2 := [(0, .ref (ax 0)), (1, .int p1), (2, .int s.2.2.2.2.2.2.2.2.2.1), (4, .int s.2.2.2.2.2.2.2.2.2.2.2.1), (6, .int (s.2.2.2.2.2.2.2.2.2.2.2.2 + (1 : Int32)))]) [1, 2, 3, 5, 0] rfl ?_
        exact h148 (o44.2.1, s.2.1, o44.2.2.1, o44.2.2.2.1, o44.2.2.2.2.1, o44.2.2.2.2.2.1, o44.2.2.2.2.2.2.1, o44.2.2.2.2.2.2.2.1, o44.2.2.2.2.2.2.2.2, s.2.2.2.2.2.2.2.2.2.1, s.2.2.2.2.2.2.2.2.2.2.2.1, (s.2.2.2.2.2.2.2.2.2.2.2.2 + (1 : Int32))) hf
      · have hf := (f_if hf).2 c46
        refine g_iconst (v := (0 : Int32)) C dL_stops_143 (by decide) ?_
        obtain rfl := Option.some.inj hf
        exact g_zret C K (by decide) dL_stops_144 (Nat.le_of_ble_eq_true rfl) (Nat.le_of_ble_eq_true rfl) ⟨rfl, rfl⟩
  have h119 : ∀ s : St × St × Hb × St × St × St × St × St × St, b_L_stops_119 N Vp Vn Vm Vh Vk0 Vk1 Vk2 Vk3 Vk4 Vk5 ρ p1 s = some o → G E X 11 [xo E ax (ap 0) ex1 (an 0) (am 0) (ah 0) ex5 ex6, pd E ap Vp, sc E an s.1, sc E am s.2.1, hb E ah (ak0 0) (ak1 0) (ak2 0) (ak3 0) (ak4 0) (ak5 0) s.2.2.1, sc E ak0 s.2.2.2.1, sc E ak1 s.2.2.2.2.1, sc E ak2 s.2.2.2.2.2.1, sc E ak3 s.2.2.2.2.2.2.1, sc E ak4 s.2.2.2.2.2.2.2.1, sc E ak5 s.2.2.2.2.2.2.2.2, gu] 0 0 [] [] 119 := by
    intro s hf
    unfold b_L_stops_119 at hf
    refine g_iconst (v := (0 : Int32)) C dL_stops_119 (by decide) ?_
    obtain rfl := Option.some.inj hf
    exact g_zret C K (by decide) dL_stops_120 (Nat.le_of_ble_eq_true rfl) (Nat.le_of_ble_eq_true rfl) ⟨rfl, rfl⟩
  have h32 : ∀ s : St × Int32 × Int32 × Int32 × Int32, b_L_stops_32 N Vp Vn Vm Vh Vk0 Vk1 Vk2 Vk3 Vk4 Vk5 ρ p1 s = some o → G E X 11 [xo E ax (ap 0) ex1 (an 0) (am 0) (ah 0) ex5 ex6, pd E ap Vp, sc E an Vn, sc E am s.1, hb E ah (ak0 0) (ak1 0) (ak2 0) (ak3 0) (ak4 0) (ak5 0) Vh, sc E ak0 Vk0, sc E ak1 Vk1, sc E ak2 Vk2, sc E ak3 Vk3, sc E ak4 Vk4, sc E ak5 Vk5, gu] 0 0 [(0, .ref (ax 0)), (1, .int p1), (2, .int s.2.1), (3, .int s.2.2.1), (4, .int s.2.2.2.1)] [.int s.2.2.2.2] 32 := by
    intro s hf
    unfold b_L_stops_32 at hf
    refine g_istore (lv2 := [(5, .int s.2.2.2.2), (0, .ref (ax 0)), (1, .int p1), (2, .int s.2.1), (3, .int s.2.2.1), (4, .int s.2.2.2.1)]) C dL_stops_32 (by decide) rfl ?_
    refine g_iconst (v := (0 : Int32)) C dL_stops_34 (by decide) ?_
    refine g_istore (lv2 := [(6, .int (0 : Int32)), (5, .int s.2.2.2.2), (0, .ref (ax 0)), (1, .int p1), (2, .int s.2.1), (3, .int s.2.2.1), (4, .int s.2.2.2.1)]) C dL_stops_35 (by decide) rfl ?_
    refine g_iload C dL_stops_37 1 rfl ?_
    refine g_if_eq (tgt := 124) C dL_stops_39 (by decide) (fun c47 => ?_) (fun c47 => ?_)
    · have hf := (f_if hf).1 c47
      refine g_sub (lv2 := [(0, .ref (ax 0)), (1, .int p1), (2, .int s.2.1), (3, .int s.2.2.1), (4, .int s.2.2.2.1), (6, .int (0 : Int32))]) [2, 3, 4, 5, 6, 0] rfl ?_
      exact h124 (Vn, s.1, Vh, Vk0, Vk1, Vk2, Vk3, Vk4, Vk5, s.2.1, s.2.2.1, s.2.2.2.1, (0 : Int32)) hf
    · have hf := (f_if hf).2 c47
      refine g_aload_n C dL_stops_42 rfl 2 rfl ?_
      refine g_bipush (v := (7 : Int32)) C dL_stops_43 (by decide) ?_
      obtain ⟨o48, hq49, hf⟩ := bind_s hf
      refine g_callV (As := [.int (7 : Int32)]) (rest := []) C k_X5_count (fun l => c_X5_count (E := E) (ax := ax) (ex1 := ex1) (ex3 := (am 0)) (ex5 := ex5) (ex6 := ex6) (ap := ap) (Vp := Vp) (an := an) (Vn := Vn) (ah := ah) (Vh := Vh) (ak0 := ak0) (Vk0 := Vk0) (ak1 := ak1) (Vk1 := Vk1) (ak2 := ak2) (Vk2 := Vk2) (ak3 := ak3) (Vk3 := Vk3) (ak4 := ak4) (Vk4 := Vk4) (ak5 := ak5) (Vk5 := Vk5) hq49 l) mt_460 [0, 1, 2, 4, 5, 6, 7, 8, 9, 10] rfl (by decide) ⟨_, _, _, _, List.mem_flatten.mpr ⟨_, List.mem_of_getElem? (i := 0) rfl, List.mem_of_getElem? (i := 0) rfl⟩, rfl⟩ rfl (Nat.le_of_ble_eq_true rfl) ⟨Nat.le_of_ble_eq_true rfl, Nat.le_of_ble_eq_true rfl, Nat.le_of_ble_eq_true rfl, Nat.le_of_ble_eq_true rfl⟩ dL_stops_45 ?_
      rintro _ _ ⟨rfl, rfl⟩
      show G E X 11 [xo E ax (ap 0) ex1 (an 0) (am 0) (ah 0) ex5 ex6, pd E ap Vp, sc E an Vn, sc E am s.1, hb E ah (ak0 0) (ak1 0) (ak2 0) (ak3 0) (ak4 0) (ak5 0) Vh, sc E ak0 Vk0, sc E ak1 Vk1, sc E ak2 Vk2, sc E ak3 Vk3, sc E ak4 Vk4, sc E ak5 Vk5, gu] 0 0 [(6, .int (0 : Int32)), (5, .int s.2.2.2.2), (0, .ref (ax 0)), (1, .int p1), (2, .int s.2.1), (3, .int s.2.2.1), (4, .int s.2.2.2.1)] [.int o48] 48
      refine g_istore (lv2 := [(7, .int o48), (6, .int (0 : Int32)), (5, .int s.2.2.2.2), (0, .ref (ax 0)), (1, .int p1), (2, .int s.2.1), (3, .int s.2.2.1), (4, .int s.2.2.2.1)]) C dL_stops_48 (by decide) rfl ?_
      refine g_aload_n C dL_stops_50 rfl 3 rfl ?_
      obtain ⟨o50, hq51, hf⟩ := bind_s hf
      refine g_callV (As := []) (rest := []) C k_X5_stop (fun l => c_X5_stop (E := E) (ax := ax) (ex0 := (ap 0)) (ex1 := ex1) (ex3 := (am 0)) (ex5 := ex5) (ex6 := ex6) (an := an) (Vn := Vn) (ah := ah) (Vh := Vh) (ak0 := ak0) (Vk0 := Vk0) (ak1 := ak1) (Vk1 := Vk1) (ak2 := ak2) (Vk2 := Vk2) (ak3 := ak3) (Vk3 := Vk3) (ak4 := ak4) (Vk4 := Vk4) (ak5 := ak5) (Vk5 := Vk5) hq51 l) mt_604 [0, 2, 4, 5, 6, 7, 8, 9, 10] rfl (by decide) ⟨_, _, _, _, List.mem_flatten.mpr ⟨_, List.mem_of_getElem? (i := 0) rfl, List.mem_of_getElem? (i := 0) rfl⟩, rfl⟩ rfl (Nat.le_of_ble_eq_true rfl) ⟨Nat.le_of_ble_eq_true rfl, Nat.le_of_ble_eq_true rfl, Nat.le_of_ble_eq_true rfl, Nat.le_of_ble_eq_true rfl⟩ dL_stops_51 ?_
      rintro _ _ ⟨rfl, rfl⟩
      show G E X 11 [xo E ax (ap 0) ex1 (an 0) (am 0) (ah 0) ex5 ex6, pd E ap Vp, sc E an o50.2.1, sc E am s.1, hb E ah (ak0 0) (ak1 0) (ak2 0) (ak3 0) (ak4 0) (ak5 0) o50.2.2.1, sc E ak0 o50.2.2.2.1, sc E ak1 o50.2.2.2.2.1, sc E ak2 o50.2.2.2.2.2.1, sc E ak3 o50.2.2.2.2.2.2.1, sc E ak4 o50.2.2.2.2.2.2.2.1, sc E ak5 o50.2.2.2.2.2.2.2.2, gu] 0 0 [(7, .int o48), (6, .int (0 : Int32)), (5, .int s.2.2.2.2), (0, .ref (ax 0)), (1, .int p1), (2, .int s.2.1), (3, .int s.2.2.1), (4, .int s.2.2.2.1)] [.int o50.1] 54
      refine g_iload_n C dL_stops_54 rfl 6 rfl ?_
      refine g_icmp_ne (tgt := 119) C dL_stops_55 (by decide) (fun c52 => ?_) (fun c52 => ?_)
      · have hf := (f_if hf).2 c52
        refine g_sub (lv2 := []) [] rfl ?_
        exact h119 (o50.2.1, s.1, o50.2.2.1, o50.2.2.2.1, o50.2.2.2.2.1, o50.2.2.2.2.2.1, o50.2.2.2.2.2.2.1, o50.2.2.2.2.2.2.2.1, o50.2.2.2.2.2.2.2.2) hf
      · have hf := (f_if hf).1 c52
        refine g_aload_n C dL_stops_58 rfl 3 rfl ?_
        refine g_bipush (v := (7 : Int32)) C dL_stops_59 (by decide) ?_
        obtain ⟨o53, hq54, hf⟩ := bind_s hf
        refine g_callV (As := [.int (7 : Int32)]) (rest := []) C k_X5_count (fun l => c_X5_count (E := E) (ax := ax) (ex1 := ex1) (ex3 := (am 0)) (ex5 := ex5) (ex6 := ex6) (ap := ap) (Vp := Vp) (an := an) (Vn := o50.2.1) (ah := ah) (Vh := o50.2.2.1) (ak0 := ak0) (Vk0 := o50.2.2.2.1) (ak1 := ak1) (Vk1 := o50.2.2.2.2.1) (ak2 := ak2) (Vk2 := o50.2.2.2.2.2.1) (ak3 := ak3) (Vk3 := o50.2.2.2.2.2.2.1) (ak4 := ak4) (Vk4 := o50.2.2.2.2.2.2.2.1) (ak5 := ak5) (Vk5 := o50.2.2.2.2.2.2.2.2) hq54 l) mt_460 [0, 1, 2, 4, 5, 6, 7, 8, 9, 10] rfl (by decide) ⟨_, _, _, _, List.mem_flatten.mpr ⟨_, List.mem_of_getElem? (i := 0) rfl, List.mem_of_getElem? (i := 0) rfl⟩, rfl⟩ rfl (Nat.le_of_ble_eq_true rfl) ⟨Nat.le_of_ble_eq_true rfl, Nat.le_of_ble_eq_true rfl, Nat.le_of_ble_eq_true rfl, Nat.le_of_ble_eq_true rfl⟩ dL_stops_61 ?_
        rintro _ _ ⟨rfl, rfl⟩
        show G E X 11 [xo E ax (ap 0) ex1 (an 0) (am 0) (ah 0) ex5 ex6, pd E ap Vp, sc E an o50.2.1, sc E am s.1, hb E ah (ak0 0) (ak1 0) (ak2 0) (ak3 0) (ak4 0) (ak5 0) o50.2.2.1, sc E ak0 o50.2.2.2.1, sc E ak1 o50.2.2.2.2.1, sc E ak2 o50.2.2.2.2.2.1, sc E ak3 o50.2.2.2.2.2.2.1, sc E ak4 o50.2.2.2.2.2.2.2.1, sc E ak5 o50.2.2.2.2.2.2.2.2, gu] 0 0 [(7, .int o48), (6, .int (0 : Int32)), (5, .int s.2.2.2.2), (0, .ref (ax 0)), (1, .int p1), (2, .int s.2.1), (3, .int s.2.2.1), (4, .int s.2.2.2.1)] [.int o53] 64
        refine g_iload C dL_stops_64 0 rfl ?_
        refine g_iconst (v := (1 : Int32)) C dL_stops_66 (by decide) ?_
        refine g_iadd C dL_stops_67 ?_
        refine g_icmp_ne (tgt := 119) C dL_stops_68 (by decide) (fun c55 => ?_) (fun c55 => ?_)
        · have hf := (f_if hf).2 c55
          refine g_sub (lv2 := []) [] rfl ?_
          exact h119 (o50.2.1, s.1, o50.2.2.1, o50.2.2.2.1, o50.2.2.2.2.1, o50.2.2.2.2.2.1, o50.2.2.2.2.2.2.1, o50.2.2.2.2.2.2.2.1, o50.2.2.2.2.2.2.2.2) hf
        · have hf := (f_if hf).1 c55
          refine g_aload_n C dL_stops_71 rfl 3 rfl ?_
          refine g_iconst (v := (0 : Int32)) C dL_stops_72 (by decide) ?_
          refine g_iconst (v := (0 : Int32)) C dL_stops_73 (by decide) ?_
          obtain ⟨o56, hq57, hf⟩ := bind_s hf
          refine g_callV (As := [.int (0 : Int32), .int (0 : Int32)]) (rest := []) C k_X5_ofStop (fun l => c_X5_ofStop (E := E) (ax := ax) (ex0 := (ap 0)) (ex1 := ex1) (ex3 := (am 0)) (ex4 := (ah 0)) (ex5 := ex5) (ex6 := ex6) (an := an) (Vn := o50.2.1) hq57 l) mt_609 [0, 2] rfl (by decide) ⟨_, _, _, _, List.mem_flatten.mpr ⟨_, List.mem_of_getElem? (i := 0) rfl, List.mem_of_getElem? (i := 0) rfl⟩, rfl⟩ rfl (Nat.le_of_ble_eq_true rfl) ⟨Nat.le_of_ble_eq_true rfl, Nat.le_of_ble_eq_true rfl, Nat.le_of_ble_eq_true rfl, Nat.le_of_ble_eq_true rfl⟩ dL_stops_74 ?_
          rintro _ _ ⟨rfl, rfl⟩
          show G E X 11 [xo E ax (ap 0) ex1 (an 0) (am 0) (ah 0) ex5 ex6, pd E ap Vp, sc E an o50.2.1, sc E am s.1, hb E ah (ak0 0) (ak1 0) (ak2 0) (ak3 0) (ak4 0) (ak5 0) o50.2.2.1, sc E ak0 o50.2.2.2.1, sc E ak1 o50.2.2.2.2.1, sc E ak2 o50.2.2.2.2.2.1, sc E ak3 o50.2.2.2.2.2.2.1, sc E ak4 o50.2.2.2.2.2.2.2.1, sc E ak5 o50.2.2.2.2.2.2.2.2, gu] 0 0 [(7, .int o48), (6, .int (0 : Int32)), (5, .int s.2.2.2.2), (0, .ref (ax 0)), (1, .int p1), (2, .int s.2.1), (3, .int s.2.2.1), (4, .int s.2.2.2.1)] [.int o56] 77
          refine g_aload_n C dL_stops_77 rfl 3 rfl ?_
          refine g_iconst (v := (0 : Int32)) C dL_stops_78 (by decide) ?_
          obtain ⟨o58, hq59, hf⟩ := bind_s hf
          refine g_callV (As := [.int (0 : Int32)]) (rest := [.int o56]) C k_X5_count (fun l => c_X5_count (E := E) (ax := ax) (ex1 := ex1) (ex3 := (am 0)) (ex5 := ex5) (ex6 := ex6) (ap := ap) (Vp := Vp) (an := an) (Vn := o50.2.1) (ah := ah) (Vh := o50.2.2.1) (ak0 := ak0) (Vk0 := o50.2.2.2.1) (ak1 := ak1) (Vk1 := o50.2.2.2.2.1) (ak2 := ak2) (Vk2 := o50.2.2.2.2.2.1) (ak3 := ak3) (Vk3 := o50.2.2.2.2.2.2.1) (ak4 := ak4) (Vk4 := o50.2.2.2.2.2.2.2.1) (ak5 := ak5) (Vk5 := o50.2.2.2.2.2.2.2.2) hq59 l) mt_460 [0, 1, 2, 4, 5, 6, 7, 8, 9, 10] rfl (by decide) ⟨_, _, _, _, List.mem_flatten.mpr ⟨_, List.mem_of_getElem? (i := 0) rfl, List.mem_of_getElem? (i := 0) rfl⟩, rfl⟩ rfl (Nat.le_of_ble_eq_true rfl) ⟨Nat.le_of_ble_eq_true rfl, Nat.le_of_ble_eq_true rfl, Nat.le_of_ble_eq_true rfl, Nat.le_of_ble_eq_true rfl⟩ dL_stops_79 ?_
          rintro _ _ ⟨rfl, rfl⟩
          show G E X 11 [xo E ax (ap 0) ex1 (an 0) (am 0) (ah 0) ex5 ex6, pd E ap Vp, sc E an o50.2.1, sc E am s.1, hb E ah (ak0 0) (ak1 0) (ak2 0) (ak3 0) (ak4 0) (ak5 0) o50.2.2.1, sc E ak0 o50.2.2.2.1, sc E ak1 o50.2.2.2.2.1, sc E ak2 o50.2.2.2.2.2.1, sc E ak3 o50.2.2.2.2.2.2.1, sc E ak4 o50.2.2.2.2.2.2.2.1, sc E ak5 o50.2.2.2.2.2.2.2.2, gu] 0 0 [(7, .int o48), (6, .int (0 : Int32)), (5, .int s.2.2.2.2), (0, .ref (ax 0)), (1, .int p1), (2, .int s.2.1), (3, .int s.2.2.1), (4, .int s.2.2.2.1)] [.int o58, .int o56] 82
          refine g_icmp_ne (tgt := 119) C dL_stops_82 (by decide) (fun c60 => ?_) (fun c60 => ?_)
          · have hf := (f_if hf).2 c60
            refine g_sub (lv2 := []) [] rfl ?_
            exact h119 (o50.2.1, s.1, o50.2.2.1, o50.2.2.2.1, o50.2.2.2.2.1, o50.2.2.2.2.2.1, o50.2.2.2.2.2.2.1, o50.2.2.2.2.2.2.2.1, o50.2.2.2.2.2.2.2.2) hf
          · have hf := (f_if hf).1 c60
            refine g_aload_n C dL_stops_85 rfl 3 rfl ?_
            refine g_iconst (v := (0 : Int32)) C dL_stops_86 (by decide) ?_
            refine g_iconst (v := (1 : Int32)) C dL_stops_87 (by decide) ?_
            obtain ⟨o61, hq62, hf⟩ := bind_s hf
            refine g_callV (As := [.int (0 : Int32), .int (1 : Int32)]) (rest := []) C k_X5_ofStop (fun l => c_X5_ofStop (E := E) (ax := ax) (ex0 := (ap 0)) (ex1 := ex1) (ex3 := (am 0)) (ex4 := (ah 0)) (ex5 := ex5) (ex6 := ex6) (an := an) (Vn := o50.2.1) hq62 l) mt_609 [0, 2] rfl (by decide) ⟨_, _, _, _, List.mem_flatten.mpr ⟨_, List.mem_of_getElem? (i := 0) rfl, List.mem_of_getElem? (i := 0) rfl⟩, rfl⟩ rfl (Nat.le_of_ble_eq_true rfl) ⟨Nat.le_of_ble_eq_true rfl, Nat.le_of_ble_eq_true rfl, Nat.le_of_ble_eq_true rfl, Nat.le_of_ble_eq_true rfl⟩ dL_stops_88 ?_
            rintro _ _ ⟨rfl, rfl⟩
            show G E X 11 [xo E ax (ap 0) ex1 (an 0) (am 0) (ah 0) ex5 ex6, pd E ap Vp, sc E an o50.2.1, sc E am s.1, hb E ah (ak0 0) (ak1 0) (ak2 0) (ak3 0) (ak4 0) (ak5 0) o50.2.2.1, sc E ak0 o50.2.2.2.1, sc E ak1 o50.2.2.2.2.1, sc E ak2 o50.2.2.2.2.2.1, sc E ak3 o50.2.2.2.2.2.2.1, sc E ak4 o50.2.2.2.2.2.2.2.1, sc E ak5 o50.2.2.2.2.2.2.2.2, gu] 0 0 [(7, .int o48), (6, .int (0 : Int32)), (5, .int s.2.2.2.2), (0, .ref (ax 0)), (1, .int p1), (2, .int s.2.1), (3, .int s.2.2.1), (4, .int s.2.2.2.1)] [.int o61] 91
            refine g_iload_n C dL_stops_91 rfl 6 rfl ?_
            refine g_icmp_ne (tgt := 119) C dL_stops_92 (by decide) (fun c63 => ?_) (fun c63 => ?_)
            · have hf := (f_if hf).2 c63
              refine g_sub (lv2 := []) [] rfl ?_
              exact h119 (o50.2.1, s.1, o50.2.2.1, o50.2.2.2.1, o50.2.2.2.2.1, o50.2.2.2.2.2.1, o50.2.2.2.2.2.2.1, o50.2.2.2.2.2.2.2.1, o50.2.2.2.2.2.2.2.2) hf
            · have hf := (f_if hf).1 c63
              refine g_aload_n C dL_stops_95 rfl 3 rfl ?_
              refine g_iconst (v := (0 : Int32)) C dL_stops_96 (by decide) ?_
              refine g_iconst (v := (2 : Int32)) C dL_stops_97 (by decide) ?_
              obtain ⟨o64, hq65, hf⟩ := bind_s hf
              refine g_callV (As := [.int (0 : Int32), .int (2 : Int32)]) (rest := []) C k_X5_ofStop (fun l => c_X5_ofStop (E := E) (ax := ax) (ex0 := (ap 0)) (ex1 := ex1) (ex3 := (am 0)) (ex4 := (ah 0)) (ex5 := ex5) (ex6 := ex6) (an := an) (Vn := o50.2.1) hq65 l) mt_609 [0, 2] rfl (by decide) ⟨_, _, _, _, List.mem_flatten.mpr ⟨_, List.mem_of_getElem? (i := 0) rfl, List.mem_of_getElem? (i := 0) rfl⟩, rfl⟩ rfl (Nat.le_of_ble_eq_true rfl) ⟨Nat.le_of_ble_eq_true rfl, Nat.le_of_ble_eq_true rfl, Nat.le_of_ble_eq_true rfl, Nat.le_of_ble_eq_true rfl⟩ dL_stops_98 ?_
              rintro _ _ ⟨rfl, rfl⟩
              show G E X 11 [xo E ax (ap 0) ex1 (an 0) (am 0) (ah 0) ex5 ex6, pd E ap Vp, sc E an o50.2.1, sc E am s.1, hb E ah (ak0 0) (ak1 0) (ak2 0) (ak3 0) (ak4 0) (ak5 0) o50.2.2.1, sc E ak0 o50.2.2.2.1, sc E ak1 o50.2.2.2.2.1, sc E ak2 o50.2.2.2.2.2.1, sc E ak3 o50.2.2.2.2.2.2.1, sc E ak4 o50.2.2.2.2.2.2.2.1, sc E ak5 o50.2.2.2.2.2.2.2.2, gu] 0 0 [(7, .int o48), (6, .int (0 : Int32)), (5, .int s.2.2.2.2), (0, .ref (ax 0)), (1, .int p1), (2, .int s.2.1), (3, .int s.2.2.1), (4, .int s.2.2.2.1)] [.int o64] 101
              refine g_aload_n C dL_stops_101 rfl 3 rfl ?_
              refine g_iconst (v := (2 : Int32)) C dL_stops_102 (by decide) ?_
              obtain ⟨o66, hq67, hf⟩ := bind_s hf
              refine g_callV (As := [.int (2 : Int32)]) (rest := [.int o64]) C k_X5_count (fun l => c_X5_count (E := E) (ax := ax) (ex1 := ex1) (ex3 := (am 0)) (ex5 := ex5) (ex6 := ex6) (ap := ap) (Vp := Vp) (an := an) (Vn := o50.2.1) (ah := ah) (Vh := o50.2.2.1) (ak0 := ak0) (Vk0 := o50.2.2.2.1) (ak1 := ak1) (Vk1 := o50.2.2.2.2.1) (ak2 := ak2) (Vk2 := o50.2.2.2.2.2.1) (ak3 := ak3) (Vk3 := o50.2.2.2.2.2.2.1) (ak4 := ak4) (Vk4 := o50.2.2.2.2.2.2.2.1) (ak5 := ak5) (Vk5 := o50.2.2.2.2.2.2.2.2) hq67 l) mt_460 [0, 1, 2, 4, 5, 6, 7, 8, 9, 10] rfl (by decide) ⟨_, _, _, _, List.mem_flatten.mpr ⟨_, List.mem_of_getElem? (i := 0) rfl, List.mem_of_getElem? (i := 0) rfl⟩, rfl⟩ rfl (Nat.le_of_ble_eq_true rfl) ⟨Nat.le_of_ble_eq_true rfl, Nat.le_of_ble_eq_true rfl, Nat.le_of_ble_eq_true rfl, Nat.le_of_ble_eq_true rfl⟩ dL_stops_103 ?_
              rintro _ _ ⟨rfl, rfl⟩
              show G E X 11 [xo E ax (ap 0) ex1 (an 0) (am 0) (ah 0) ex5 ex6, pd E ap Vp, sc E an o50.2.1, sc E am s.1, hb E ah (ak0 0) (ak1 0) (ak2 0) (ak3 0) (ak4 0) (ak5 0) o50.2.2.1, sc E ak0 o50.2.2.2.1, sc E ak1 o50.2.2.2.2.1, sc E ak2 o50.2.2.2.2.2.1, sc E ak3 o50.2.2.2.2.2.2.1, sc E ak4 o50.2.2.2.2.2.2.2.1, sc E ak5 o50.2.2.2.2.2.2.2.2, gu] 0 0 [(7, .int o48), (6, .int (0 : Int32)), (5, .int s.2.2.2.2), (0, .ref (ax 0)), (1, .int p1), (2, .int s.2.1), (3, .int s.2.2.1), (4, .int s.2.2.2.1)] [.int o66, .int o64] 106
              refine g_icmp_ne (tgt := 119) C dL_stops_106 (by decide) (fun c68 => ?_) (fun c68 => ?_)
              · have hf := (f_if hf).2 c68
                refine g_sub (lv2 := []) [] rfl ?_
                exact h119 (o50.2.1, s.1, o50.2.2.1, o50.2.2.2.1, o50.2.2.2.2.1, o50.2.2.2.2.2.1, o50.2.2.2.2.2.2.1, o50.2.2.2.2.2.2.2.1, o50.2.2.2.2.2.2.2.2) hf
              · have hf := (f_if hf).1 c68
                refine g_aload_n C dL_stops_109 rfl 3 rfl ?_
                refine g_iconst (v := (0 : Int32)) C dL_stops_110 (by decide) ?_
                refine g_iconst (v := (4 : Int32)) C dL_stops_111 (by decide) ?_
                obtain ⟨o69, hq70, hf⟩ := bind_s hf
                refine g_callV (As := [.int (0 : Int32), .int (4 : Int32)]) (rest := []) C k_X5_ofStop (fun l => c_X5_ofStop (E := E) (ax := ax) (ex0 := (ap 0)) (ex1 := ex1) (ex3 := (am 0)) (ex4 := (ah 0)) (ex5 := ex5) (ex6 := ex6) (an := an) (Vn := o50.2.1) hq70 l) mt_609 [0, 2] rfl (by decide) ⟨_, _, _, _, List.mem_flatten.mpr ⟨_, List.mem_of_getElem? (i := 0) rfl, List.mem_of_getElem? (i := 0) rfl⟩, rfl⟩ rfl (Nat.le_of_ble_eq_true rfl) ⟨Nat.le_of_ble_eq_true rfl, Nat.le_of_ble_eq_true rfl, Nat.le_of_ble_eq_true rfl, Nat.le_of_ble_eq_true rfl⟩ dL_stops_112 ?_
                rintro _ _ ⟨rfl, rfl⟩
                show G E X 11 [xo E ax (ap 0) ex1 (an 0) (am 0) (ah 0) ex5 ex6, pd E ap Vp, sc E an o50.2.1, sc E am s.1, hb E ah (ak0 0) (ak1 0) (ak2 0) (ak3 0) (ak4 0) (ak5 0) o50.2.2.1, sc E ak0 o50.2.2.2.1, sc E ak1 o50.2.2.2.2.1, sc E ak2 o50.2.2.2.2.2.1, sc E ak3 o50.2.2.2.2.2.2.1, sc E ak4 o50.2.2.2.2.2.2.2.1, sc E ak5 o50.2.2.2.2.2.2.2.2, gu] 0 0 [(7, .int o48), (6, .int (0 : Int32)), (5, .int s.2.2.2.2), (0, .ref (ax 0)), (1, .int p1), (2, .int s.2.1), (3, .int s.2.2.1), (4, .int s.2.2.2.1)] [.int o69] 115
                refine g_iconst (v := (1 : Int32)) C dL_stops_115 (by decide) ?_
                refine g_icmp_eq (tgt := 121) C dL_stops_116 (by decide) (fun c71 => ?_) (fun c71 => ?_)
                · have hf := (f_if hf).1 c71
                  refine g_iinc (v := ((0 : Int32) + (1 : Int32))) (lv2 := [(6, .int ((0 : Int32) + (1 : Int32))), (7, .int o48), (5, .int s.2.2.2.2), (0, .ref (ax 0)), (1, .int p1), (2, .int s.2.1), (3, .int s.2.2.1), (4, .int s.2.2.2.1)]) C dL_stops_121 1 rfl (ii (by decide)) (by decide) rfl ?_
                  refine g_sub (lv2 := [(0, .ref (ax 0)), (1, .int p1), (2, .int s.2.1), (3, .int s.2.2.1), (4, .int s.2.2.2.1), (6, .int ((0 : Int32) + (1 : Int32)))]) [3, 4, 5, 6, 7, 0] rfl ?_
                  exact h124 (o50.2.1, s.1, o50.2.2.1, o50.2.2.2.1, o50.2.2.2.2.1, o50.2.2.2.2.2.1, o50.2.2.2.2.2.2.1, o50.2.2.2.2.2.2.2.1, o50.2.2.2.2.2.2.2.2, s.2.1, s.2.2.1, s.2.2.2.1, ((0 : Int32) + (1 : Int32))) hf
                · have hf := (f_if hf).2 c71
                  refine g_sub (lv2 := []) [] rfl ?_
                  exact h119 (o50.2.1, s.1, o50.2.2.1, o50.2.2.2.1, o50.2.2.2.2.1, o50.2.2.2.2.2.1, o50.2.2.2.2.2.2.1, o50.2.2.2.2.2.2.2.1, o50.2.2.2.2.2.2.2.2) hf
  unfold f_L_stops at hf
  refine g_aload_n C dL_stops_0 rfl 0 rfl ?_
  obtain ⟨o72, hq73, hf⟩ := bind_s hf
  refine g_callV (As := []) (rest := []) C k_X5_way (fun l => c_X5_way (E := E) (ax := ax) (ex0 := (ap 0)) (ex1 := ex1) (ex4 := (ah 0)) (ex5 := ex5) (ex6 := ex6) (an := an) (Vn := Vn) (am := am) (Vm := Vm) hq73 l) mt_472 [0, 2, 3] rfl (by decide) ⟨_, _, _, _, List.mem_flatten.mpr ⟨_, List.mem_of_getElem? (i := 0) rfl, List.mem_of_getElem? (i := 0) rfl⟩, rfl⟩ rfl (Nat.le_of_ble_eq_true rfl) ⟨Nat.le_of_ble_eq_true rfl, Nat.le_of_ble_eq_true rfl, Nat.le_of_ble_eq_true rfl, Nat.le_of_ble_eq_true rfl⟩ dL_stops_1 ?_
  rintro _ _ ⟨rfl, rfl⟩
  show G E X 11 [xo E ax (ap 0) ex1 (an 0) (am 0) (ah 0) ex5 ex6, pd E ap Vp, sc E an Vn, sc E am o72.2, hb E ah (ak0 0) (ak1 0) (ak2 0) (ak3 0) (ak4 0) (ak5 0) Vh, sc E ak0 Vk0, sc E ak1 Vk1, sc E ak2 Vk2, sc E ak3 Vk3, sc E ak4 Vk4, sc E ak5 Vk5, gu] 0 0 [(0, .ref (ax 0)), (1, .int p1)] [.int o72.1] 4
  refine g_istore_n (lv2 := [(2, .int o72.1), (0, .ref (ax 0)), (1, .int p1)]) C dL_stops_4 rfl (by decide) rfl ?_
  refine g_aload_n C dL_stops_5 rfl 1 rfl ?_
  refine g_iconst (v := (3 : Int32)) C dL_stops_6 (by decide) ?_
  obtain ⟨o74, hq75, hf⟩ := bind_s hf
  refine g_callV (As := [.int (3 : Int32)]) (rest := []) C k_X5_count (fun l => c_X5_count (E := E) (ax := ax) (ex1 := ex1) (ex3 := (am 0)) (ex5 := ex5) (ex6 := ex6) (ap := ap) (Vp := Vp) (an := an) (Vn := Vn) (ah := ah) (Vh := Vh) (ak0 := ak0) (Vk0 := Vk0) (ak1 := ak1) (Vk1 := Vk1) (ak2 := ak2) (Vk2 := Vk2) (ak3 := ak3) (Vk3 := Vk3) (ak4 := ak4) (Vk4 := Vk4) (ak5 := ak5) (Vk5 := Vk5) hq75 l) mt_460 [0, 1, 2, 4, 5, 6, 7, 8, 9, 10] rfl (by decide) ⟨_, _, _, _, List.mem_flatten.mpr ⟨_, List.mem_of_getElem? (i := 0) rfl, List.mem_of_getElem? (i := 0) rfl⟩, rfl⟩ rfl (Nat.le_of_ble_eq_true rfl) ⟨Nat.le_of_ble_eq_true rfl, Nat.le_of_ble_eq_true rfl, Nat.le_of_ble_eq_true rfl, Nat.le_of_ble_eq_true rfl⟩ dL_stops_7 ?_
  rintro _ _ ⟨rfl, rfl⟩
  show G E X 11 [xo E ax (ap 0) ex1 (an 0) (am 0) (ah 0) ex5 ex6, pd E ap Vp, sc E an Vn, sc E am o72.2, hb E ah (ak0 0) (ak1 0) (ak2 0) (ak3 0) (ak4 0) (ak5 0) Vh, sc E ak0 Vk0, sc E ak1 Vk1, sc E ak2 Vk2, sc E ak3 Vk3, sc E ak4 Vk4, sc E ak5 Vk5, gu] 0 0 [(2, .int o72.1), (0, .ref (ax 0)), (1, .int p1)] [.int o74] 10
  refine g_istore_n (lv2 := [(3, .int o74), (2, .int o72.1), (0, .ref (ax 0)), (1, .int p1)]) C dL_stops_10 rfl (by decide) rfl ?_
  refine g_aload_n C dL_stops_11 rfl 2 rfl ?_
  refine g_bipush (v := (9 : Int32)) C dL_stops_12 (by decide) ?_
  obtain ⟨o76, hq77, hf⟩ := bind_s hf
  refine g_callV (As := [.int (9 : Int32)]) (rest := []) C k_X5_count (fun l => c_X5_count (E := E) (ax := ax) (ex1 := ex1) (ex3 := (am 0)) (ex5 := ex5) (ex6 := ex6) (ap := ap) (Vp := Vp) (an := an) (Vn := Vn) (ah := ah) (Vh := Vh) (ak0 := ak0) (Vk0 := Vk0) (ak1 := ak1) (Vk1 := Vk1) (ak2 := ak2) (Vk2 := Vk2) (ak3 := ak3) (Vk3 := Vk3) (ak4 := ak4) (Vk4 := Vk4) (ak5 := ak5) (Vk5 := Vk5) hq77 l) mt_460 [0, 1, 2, 4, 5, 6, 7, 8, 9, 10] rfl (by decide) ⟨_, _, _, _, List.mem_flatten.mpr ⟨_, List.mem_of_getElem? (i := 0) rfl, List.mem_of_getElem? (i := 0) rfl⟩, rfl⟩ rfl (Nat.le_of_ble_eq_true rfl) ⟨Nat.le_of_ble_eq_true rfl, Nat.le_of_ble_eq_true rfl, Nat.le_of_ble_eq_true rfl, Nat.le_of_ble_eq_true rfl⟩ dL_stops_14 ?_
  rintro _ _ ⟨rfl, rfl⟩
  show G E X 11 [xo E ax (ap 0) ex1 (an 0) (am 0) (ah 0) ex5 ex6, pd E ap Vp, sc E an Vn, sc E am o72.2, hb E ah (ak0 0) (ak1 0) (ak2 0) (ak3 0) (ak4 0) (ak5 0) Vh, sc E ak0 Vk0, sc E ak1 Vk1, sc E ak2 Vk2, sc E ak3 Vk3, sc E ak4 Vk4, sc E ak5 Vk5, gu] 0 0 [(3, .int o74), (2, .int o72.1), (0, .ref (ax 0)), (1, .int p1)] [.int o76] 17
  refine g_istore (lv2 := [(4, .int o76), (3, .int o74), (2, .int o72.1), (0, .ref (ax 0)), (1, .int p1)]) C dL_stops_17 (by decide) rfl ?_
  refine g_aload_n C dL_stops_19 rfl 3 rfl ?_
  refine g_iconst (v := (4 : Int32)) C dL_stops_20 (by decide) ?_
  obtain ⟨o78, hq79, hf⟩ := bind_s hf
  refine g_callV (As := [.int (4 : Int32)]) (rest := []) C k_X5_count (fun l => c_X5_count (E := E) (ax := ax) (ex1 := ex1) (ex3 := (am 0)) (ex5 := ex5) (ex6 := ex6) (ap := ap) (Vp := Vp) (an := an) (Vn := Vn) (ah := ah) (Vh := Vh) (ak0 := ak0) (Vk0 := Vk0) (ak1 := ak1) (Vk1 := Vk1) (ak2 := ak2) (Vk2 := Vk2) (ak3 := ak3) (Vk3 := Vk3) (ak4 := ak4) (Vk4 := Vk4) (ak5 := ak5) (Vk5 := Vk5) hq79 l) mt_460 [0, 1, 2, 4, 5, 6, 7, 8, 9, 10] rfl (by decide) ⟨_, _, _, _, List.mem_flatten.mpr ⟨_, List.mem_of_getElem? (i := 0) rfl, List.mem_of_getElem? (i := 0) rfl⟩, rfl⟩ rfl (Nat.le_of_ble_eq_true rfl) ⟨Nat.le_of_ble_eq_true rfl, Nat.le_of_ble_eq_true rfl, Nat.le_of_ble_eq_true rfl, Nat.le_of_ble_eq_true rfl⟩ dL_stops_21 ?_
  rintro _ _ ⟨rfl, rfl⟩
  show G E X 11 [xo E ax (ap 0) ex1 (an 0) (am 0) (ah 0) ex5 ex6, pd E ap Vp, sc E an Vn, sc E am o72.2, hb E ah (ak0 0) (ak1 0) (ak2 0) (ak3 0) (ak4 0) (ak5 0) Vh, sc E ak0 Vk0, sc E ak1 Vk1, sc E ak2 Vk2, sc E ak3 Vk3, sc E ak4 Vk4, sc E ak5 Vk5, gu] 0 0 [(4, .int o76), (3, .int o74), (2, .int o72.1), (0, .ref (ax 0)), (1, .int p1)] [.int o78] 24
  refine g_if_ne (tgt := 31) C dL_stops_24 (by decide) (fun c80 => ?_) (fun c80 => ?_)
  · have hf := (f_if hf).2 c80
    refine g_iconst (v := (0 : Int32)) C dL_stops_31 (by decide) ?_
    refine g_sub (lv2 := [(0, .ref (ax 0)), (1, .int p1), (2, .int o72.1), (3, .int o74), (4, .int o76)]) [3, 4, 2, 1, 0] rfl ?_
    exact h32 (o72.2, o72.1, o74, o76, (0 : Int32)) hf
  · have hf := (f_if hf).1 c80
    refine g_iconst (v := (1 : Int32)) C dL_stops_27 (by decide) ?_
    refine g_goto (tgt := 32) C dL_stops_28 (by decide) ?_
    refine g_sub (lv2 := [(0, .ref (ax 0)), (1, .int p1), (2, .int o72.1), (3, .int o74), (4, .int o76)]) [3, 4, 2, 1, 0] rfl ?_
    exact h32 (o72.2, o72.1, o74, o76, (1 : Int32)) hf
def b_L_empties_163 (N : Nat) (Vp : Pd) (Vn : St) (Vm : St) (Vh : Hb) (Vk0 : St) (Vk1 : St) (Vk2 : St) (Vk3 : St) (Vk4 : St) (Vk5 : St) (ρ : Nat → Option Ru) (s : St × St × Hb × St × St × St × St × St × St × Int32) : Option (Int32 × St × St × Hb × St × St × St × St × St × St) := (zb s.2.2.2.2.2.2.2.2.2 (some (s.2.2.2.2.2.2.2.2.2, s.1, s.2.1, s.2.2.1, s.2.2.2.1, s.2.2.2.2.1, s.2.2.2.2.2.1, s.2.2.2.2.2.2.1, s.2.2.2.2.2.2.2.1, s.2.2.2.2.2.2.2.2.1)))
def b_L_empties_162 (N : Nat) (Vp : Pd) (Vn : St) (Vm : St) (Vh : Hb) (Vk0 : St) (Vk1 : St) (Vk2 : St) (Vk3 : St) (Vk4 : St) (Vk5 : St) (ρ : Nat → Option Ru) (s : St × St × Hb × St × St × St × St × St × St) : Option (Int32 × St × St × Hb × St × St × St × St × St × St) := b_L_empties_163 N Vp Vn Vm Vh Vk0 Vk1 Vk2 Vk3 Vk4 Vk5 ρ (s.1, s.2.1, s.2.2.1, s.2.2.2.1, s.2.2.2.2.1, s.2.2.2.2.2.1, s.2.2.2.2.2.2.1, s.2.2.2.2.2.2.2.1, s.2.2.2.2.2.2.2.2, (0 : Int32))
def b_L_empties_142 (N : Nat) (Vp : Pd) (Vn : St) (Vm : St) (Vh : Hb) (Vk0 : St) (Vk1 : St) (Vk2 : St) (Vk3 : St) (Vk4 : St) (Vk5 : St) (ρ : Nat → Option Ru) (s : St × St × Hb × St × St × St × St × St × St × Int32) : Option (Int32 × St × St × Hb × St × St × St × St × St × St) := ((f_X5_undo s.1 s.2.2.1 s.2.2.2.1 s.2.2.2.2.1 s.2.2.2.2.2.1 s.2.2.2.2.2.2.1 s.2.2.2.2.2.2.2.1 s.2.2.2.2.2.2.2.2.1).bind fun o2 => (if o2.1 < 0 then b_L_empties_162 N Vp Vn Vm Vh Vk0 Vk1 Vk2 Vk3 Vk4 Vk5 ρ (o2.2.1, s.2.1, o2.2.2, s.2.2.2.1, s.2.2.2.2.1, s.2.2.2.2.2.1, s.2.2.2.2.2.2.1, s.2.2.2.2.2.2.2.1, s.2.2.2.2.2.2.2.2.1) else ((f_X5_count N Vp o2.2.1 o2.2.2 s.2.2.2.1 s.2.2.2.2.1 s.2.2.2.2.2.1 s.2.2.2.2.2.2.1 s.2.2.2.2.2.2.2.1 s.2.2.2.2.2.2.2.2.1 (1 : Int32)).bind fun o5 => (if o5 = s.2.2.2.2.2.2.2.2.2 then b_L_empties_163 N Vp Vn Vm Vh Vk0 Vk1 Vk2 Vk3 Vk4 Vk5 ρ (o2.2.1, s.2.1, o2.2.2, s.2.2.2.1, s.2.2.2.2.1, s.2.2.2.2.2.1, s.2.2.2.2.2.2.1, s.2.2.2.2.2.2.2.1, s.2.2.2.2.2.2.2.2.1, (1 : Int32)) else b_L_empties_162 N Vp Vn Vm Vh Vk0 Vk1 Vk2 Vk3 Vk4 Vk5 ρ (o2.2.1, s.2.1, o2.2.2, s.2.2.2.1, s.2.2.2.2.1, s.2.2.2.2.2.1, s.2.2.2.2.2.2.1, s.2.2.2.2.2.2.2.1, s.2.2.2.2.2.2.2.2.1)))))
def b_L_empties_123 (N : Nat) (Vp : Pd) (Vn : St) (Vm : St) (Vh : Hb) (Vk0 : St) (Vk1 : St) (Vk2 : St) (Vk3 : St) (Vk4 : St) (Vk5 : St) (ρ : Nat → Option Ru) (s : St × St × Hb × St × St × St × St × St × St × Int32 × Int32 × Int32) : Option (Int32 × St × St × Hb × St × St × St × St × St × St) := (if s.2.2.2.2.2.2.2.2.2.2.2 = 0 then b_L_empties_162 N Vp Vn Vm Vh Vk0 Vk1 Vk2 Vk3 Vk4 Vk5 ρ (s.1, s.2.1, s.2.2.1, s.2.2.2.1, s.2.2.2.2.1, s.2.2.2.2.2.1, s.2.2.2.2.2.2.1, s.2.2.2.2.2.2.2.1, s.2.2.2.2.2.2.2.2.1) else (if s.2.2.2.2.2.2.2.2.2.1 = (1 : Int32) then b_L_empties_142 N Vp Vn Vm Vh Vk0 Vk1 Vk2 Vk3 Vk4 Vk5 ρ (s.1, s.2.1, s.2.2.1, s.2.2.2.1, s.2.2.2.2.1, s.2.2.2.2.2.1, s.2.2.2.2.2.2.1, s.2.2.2.2.2.2.2.1, s.2.2.2.2.2.2.2.2.1, s.2.2.2.2.2.2.2.2.2.2.1) else ((f_X5_undo s.1 s.2.2.1 s.2.2.2.1 s.2.2.2.2.1 s.2.2.2.2.2.1 s.2.2.2.2.2.2.1 s.2.2.2.2.2.2.2.1 s.2.2.2.2.2.2.2.2.1).bind fun o10 => (if o10.1 < 0 then b_L_empties_162 N Vp Vn Vm Vh Vk0 Vk1 Vk2 Vk3 Vk4 Vk5 ρ (o10.2.1, s.2.1, o10.2.2, s.2.2.2.1, s.2.2.2.2.1, s.2.2.2.2.2.1, s.2.2.2.2.2.2.1, s.2.2.2.2.2.2.2.1, s.2.2.2.2.2.2.2.2.1) else b_L_empties_142 N Vp Vn Vm Vh Vk0 Vk1 Vk2 Vk3 Vk4 Vk5 ρ (o10.2.1, s.2.1, o10.2.2, s.2.2.2.1, s.2.2.2.2.1, s.2.2.2.2.2.1, s.2.2.2.2.2.2.1, s.2.2.2.2.2.2.2.1, s.2.2.2.2.2.2.2.2.1, s.2.2.2.2.2.2.2.2.2.2.1)))))
def b_L_empties_122 (N : Nat) (Vp : Pd) (Vn : St) (Vm : St) (Vh : Hb) (Vk0 : St) (Vk1 : St) (Vk2 : St) (Vk3 : St) (Vk4 : St) (Vk5 : St) (ρ : Nat → Option Ru) (s : St × St × Hb × St × St × St × St × St × St × Int32 × Int32) : Option (Int32 × St × St × Hb × St × St × St × St × St × St) := b_L_empties_123 N Vp Vn Vm Vh Vk0 Vk1 Vk2 Vk3 Vk4 Vk5 ρ (s.1, s.2.1, s.2.2.1, s.2.2.2.1, s.2.2.2.2.1, s.2.2.2.2.2.1, s.2.2.2.2.2.2.1, s.2.2.2.2.2.2.2.1, s.2.2.2.2.2.2.2.2.1, s.2.2.2.2.2.2.2.2.2.1, s.2.2.2.2.2.2.2.2.2.2, (0 : Int32))
def b_L_empties_84 (N : Nat) (Vp : Pd) (Vn : St) (Vm : St) (Vh : Hb) (Vk0 : St) (Vk1 : St) (Vk2 : St) (Vk3 : St) (Vk4 : St) (Vk5 : St) (ρ : Nat → Option Ru) (s : St × St × Hb × St × St × St × St × St × St × Int32 × Int32 × Int32) : Option (Int32 × St × St × Hb × St × St × St × St × St × St) := ((ρ s.1.2.2.2.2.2.2.1).bind fun R13 => ((f_X5_pass N s.1 s.2.2.1 s.2.2.2.1 s.2.2.2.2.1 s.2.2.2.2.2.1 s.2.2.2.2.2.2.1 s.2.2.2.2.2.2.2.1 s.2.2.2.2.2.2.2.2.1 R13 (1 : Int32)).bind fun o16 => (if o16.1 ≤ 0 then b_L_empties_122 N Vp Vn Vm Vh Vk0 Vk1 Vk2 Vk3 Vk4 Vk5 ρ (o16.2.1, s.2.1, o16.2.2.1, o16.2.2.2.1, o16.2.2.2.2.1, o16.2.2.2.2.2.1, o16.2.2.2.2.2.2.1, o16.2.2.2.2.2.2.2.1, o16.2.2.2.2.2.2.2.2, s.2.2.2.2.2.2.2.2.2.1, s.2.2.2.2.2.2.2.2.2.2.1) else ((f_X5_count N Vp o16.2.1 o16.2.2.1 o16.2.2.2.1 o16.2.2.2.2.1 o16.2.2.2.2.2.1 o16.2.2.2.2.2.2.1 o16.2.2.2.2.2.2.2.1 o16.2.2.2.2.2.2.2.2 (1 : Int32)).bind fun o19 => (if o19 = 0 then ((f_X5_count N Vp o16.2.1 o16.2.2.1 o16.2.2.2.1 o16.2.2.2.2.1 o16.2.2.2.2.2.1 o16.2.2.2.2.2.2.1 o16.2.2.2.2.2.2.2.1 o16.2.2.2.2.2.2.2.2 (5 : Int32)).bind fun o22 => (if o22 = (s.2.2.2.2.2.2.2.2.2.2.2 + s.2.2.2.2.2.2.2.2.2.2.1) then ((ρ o16.2.1.2.2.2.2.2.2.1).bind fun R25 => ((f_X5_emptyIn N o16.2.1 s.2.1 R25).bind fun o28 => (if o28.1 = 0 then b_L_empties_123 N Vp Vn Vm Vh Vk0 Vk1 Vk2 Vk3 Vk4 Vk5 ρ (o16.2.1, o28.2, o16.2.2.1, o16.2.2.2.1, o16.2.2.2.2.1, o16.2.2.2.2.2.1, o16.2.2.2.2.2.2.1, o16.2.2.2.2.2.2.2.1, o16.2.2.2.2.2.2.2.2, s.2.2.2.2.2.2.2.2.2.1, s.2.2.2.2.2.2.2.2.2.2.1, (1 : Int32)) else b_L_empties_122 N Vp Vn Vm Vh Vk0 Vk1 Vk2 Vk3 Vk4 Vk5 ρ (o16.2.1, o28.2, o16.2.2.1, o16.2.2.2.1, o16.2.2.2.2.1, o16.2.2.2.2.2.1, o16.2.2.2.2.2.2.1, o16.2.2.2.2.2.2.2.1, o16.2.2.2.2.2.2.2.2, s.2.2.2.2.2.2.2.2.2.1, s.2.2.2.2.2.2.2.2.2.2.1)))) else b_L_empties_122 N Vp Vn Vm Vh Vk0 Vk1 Vk2 Vk3 Vk4 Vk5 ρ (o16.2.1, s.2.1, o16.2.2.1, o16.2.2.2.1, o16.2.2.2.2.1, o16.2.2.2.2.2.1, o16.2.2.2.2.2.2.1, o16.2.2.2.2.2.2.2.1, o16.2.2.2.2.2.2.2.2, s.2.2.2.2.2.2.2.2.2.1, s.2.2.2.2.2.2.2.2.2.2.1))) else b_L_empties_122 N Vp Vn Vm Vh Vk0 Vk1 Vk2 Vk3 Vk4 Vk5 ρ (o16.2.1, s.2.1, o16.2.2.1, o16.2.2.2.1, o16.2.2.2.2.1, o16.2.2.2.2.2.1, o16.2.2.2.2.2.2.1, o16.2.2.2.2.2.2.2.1, o16.2.2.2.2.2.2.2.2, s.2.2.2.2.2.2.2.2.2.1, s.2.2.2.2.2.2.2.2.2.2.1))))))
def b_L_empties_54 (N : Nat) (Vp : Pd) (Vn : St) (Vm : St) (Vh : Hb) (Vk0 : St) (Vk1 : St) (Vk2 : St) (Vk3 : St) (Vk4 : St) (Vk5 : St) (ρ : Nat → Option Ru) (s : St × Int32) : Option (Int32 × St × St × Hb × St × St × St × St × St × St) := (zb s.2 (some (s.2, Vn, s.1, Vh, Vk0, Vk1, Vk2, Vk3, Vk4, Vk5)))
def b_L_empties_46 (N : Nat) (Vp : Pd) (Vn : St) (Vm : St) (Vh : Hb) (Vk0 : St) (Vk1 : St) (Vk2 : St) (Vk3 : St) (Vk4 : St) (Vk5 : St) (ρ : Nat → Option Ru) (s : St × Int32 × Int32) : Option (Int32 × St × St × Hb × St × St × St × St × St × St) := (if s.2.1 = s.2.2 then b_L_empties_54 N Vp Vn Vm Vh Vk0 Vk1 Vk2 Vk3 Vk4 Vk5 ρ (s.1, (1 : Int32)) else b_L_empties_54 N Vp Vn Vm Vh Vk0 Vk1 Vk2 Vk3 Vk4 Vk5 ρ (s.1, (0 : Int32)))
def b_L_empties_37 (N : Nat) (Vp : Pd) (Vn : St) (Vm : St) (Vh : Hb) (Vk0 : St) (Vk1 : St) (Vk2 : St) (Vk3 : St) (Vk4 : St) (Vk5 : St) (ρ : Nat → Option Ru) (s : St × Int32 × Int32) : Option (Int32 × St × St × Hb × St × St × St × St × St × St) := (if s.2.1 = 0 then b_L_empties_46 N Vp Vn Vm Vh Vk0 Vk1 Vk2 Vk3 Vk4 Vk5 ρ (s.1, s.2.2, (1 : Int32)) else b_L_empties_46 N Vp Vn Vm Vh Vk0 Vk1 Vk2 Vk3 Vk4 Vk5 ρ (s.1, s.2.2, (0 : Int32)))
def b_L_empties_28 (N : Nat) (Vp : Pd) (Vn : St) (Vm : St) (Vh : Hb) (Vk0 : St) (Vk1 : St) (Vk2 : St) (Vk3 : St) (Vk4 : St) (Vk5 : St) (ρ : Nat → Option Ru) (s : St × Int32 × Int32) : Option (Int32 × St × St × Hb × St × St × St × St × St × St) := (if s.2.1 = 0 then b_L_empties_37 N Vp Vn Vm Vh Vk0 Vk1 Vk2 Vk3 Vk4 Vk5 ρ (s.1, s.2.2, (1 : Int32)) else b_L_empties_37 N Vp Vn Vm Vh Vk0 Vk1 Vk2 Vk3 Vk4 Vk5 ρ (s.1, s.2.2, (0 : Int32)))
def f_L_empties (N : Nat) (Vp : Pd) (Vn : St) (Vm : St) (Vh : Hb) (Vk0 : St) (Vk1 : St) (Vk2 : St) (Vk3 : St) (Vk4 : St) (Vk5 : St) (ρ : Nat → Option Ru) : Option (Int32 × St × St × Hb × St × St × St × St × St × St) := ((ρ Vn.2.2.2.2.2.2.1).bind fun R35 => ((f_X5_emptyIn N Vn Vm R35).bind fun o38 => ((f_X5_count N Vp Vn Vh Vk0 Vk1 Vk2 Vk3 Vk4 Vk5 (1 : Int32)).bind fun o40 => (if o38.1 = 0 then b_L_empties_28 N Vp Vn Vm Vh Vk0 Vk1 Vk2 Vk3 Vk4 Vk5 ρ (o38.2, o38.1, o40) else (if o38.1 = (-6 : Int32) then b_L_empties_28 N Vp Vn Vm Vh Vk0 Vk1 Vk2 Vk3 Vk4 Vk5 ρ (o38.2, o38.1, o40) else (if o38.1 ≤ (900 : Int32) then ((f_X5_count N Vp Vn Vh Vk0 Vk1 Vk2 Vk3 Vk4 Vk5 (5 : Int32)).bind fun o45 => (if o38.1 = (1 : Int32) then b_L_empties_84 N Vp Vn Vm Vh Vk0 Vk1 Vk2 Vk3 Vk4 Vk5 ρ (Vn, o38.2, Vh, Vk0, Vk1, Vk2, Vk3, Vk4, Vk5, o38.1, o40, o45) else ((ρ Vn.2.2.2.2.2.2.1).bind fun R48 => ((f_X5_pass N Vn Vh Vk0 Vk1 Vk2 Vk3 Vk4 Vk5 R48 (o38.1 - (1 : Int32))).bind fun o51 => (if o51.1 ≤ 0 then b_L_empties_122 N Vp Vn Vm Vh Vk0 Vk1 Vk2 Vk3 Vk4 Vk5 ρ (o51.2.1, o38.2, o51.2.2.1, o51.2.2.2.1, o51.2.2.2.2.1, o51.2.2.2.2.2.1, o51.2.2.2.2.2.2.1, o51.2.2.2.2.2.2.2.1, o51.2.2.2.2.2.2.2.2, o38.1, o40) else ((f_X5_count N Vp o51.2.1 o51.2.2.1 o51.2.2.2.1 o51.2.2.2.2.1 o51.2.2.2.2.2.1 o51.2.2.2.2.2.2.1 o51.2.2.2.2.2.2.2.1 o51.2.2.2.2.2.2.2.2 (1 : Int32)).bind fun o54 => (if o54 ≤ 0 then b_L_empties_122 N Vp Vn Vm Vh Vk0 Vk1 Vk2 Vk3 Vk4 Vk5 ρ (o51.2.1, o38.2, o51.2.2.1, o51.2.2.2.1, o51.2.2.2.2.1, o51.2.2.2.2.2.1, o51.2.2.2.2.2.2.1, o51.2.2.2.2.2.2.2.1, o51.2.2.2.2.2.2.2.2, o38.1, o40) else b_L_empties_84 N Vp Vn Vm Vh Vk0 Vk1 Vk2 Vk3 Vk4 Vk5 ρ (o51.2.1, o38.2, o51.2.2.1, o51.2.2.2.1, o51.2.2.2.2.1, o51.2.2.2.2.2.1, o51.2.2.2.2.2.2.1, o51.2.2.2.2.2.2.2.1, o51.2.2.2.2.2.2.2.2, o38.1, o40, o45)))))))) else b_L_empties_28 N Vp Vn Vm Vh Vk0 Vk1 Vk2 Vk3 Vk4 Vk5 ρ (o38.2, o38.1, o40)))))))
abbrev rm_L_empties : Room := { frames := 7, cells := 0, slots := 0, locals := 157 }
set_option maxRecDepth 100000 in
theorem k_L_empties : CFs yL_empties cL_empties 5 (some .boolean) 1 := ⟨mt_626, mt_0, mt_627, ⟨by decide +kernel, by decide +kernel, by decide +kernel⟩⟩
set_option maxHeartbeats 4000000 in
set_option maxRecDepth 100000 in
theorem c_L_empties {E : Ev} {ex1 : Nat} {ex5 : Nat} {ex6 : Nat} {ax : Nat → Nat} {ap : Nat → Nat} {Vp : Pd} {an : Nat → Nat} {Vn : St} {am : Nat → Nat} {Vm : St} {ah : Nat → Nat} {Vh : Hb} {ak0 : Nat → Nat} {Vk0 : St} {ak1 : Nat → Nat} {Vk1 : St} {ak2 : Nat → Nat} {Vk2 : St} {ak3 : Nat → Nat} {Vk3 : St} {ak4 : Nat → Nat} {Vk4 : St} {ak5 : Nat → Nat} {Vk5 : St} {gu : va_W} {ρ : Nat → Option Ru} (hgu : ∀ r R, ρ r = some R → RIn E gu r R) {N : Nat} {o : Int32 × St × St × Hb × St × St × St × St × St × St} (hf : f_L_empties N Vp Vn Vm Vh Vk0 Vk1 Vk2 Vk3 Vk4 Vk5 ρ = some o) : ∀ l, MG l yL_empties cL_empties 5 (some .boolean) rm_L_empties E [.ref (ax 0)] [xo E ax (ap 0) ex1 (an 0) (am 0) (ah 0) ex5 ex6, pd E ap Vp, sc E an Vn, sc E am Vm, hb E ah (ak0 0) (ak1 0) (ak2 0) (ak3 0) (ak4 0) (ak5 0) Vh, sc E ak0 Vk0, sc E ak1 Vk1, sc E ak2 Vk2, sc E ak3 Vk3, sc E ak4 Vk4, sc E ak5 Vk5, gu] (fun v Y => v = some (.int o.1) ∧ Y = [xo E ax (ap 0) ex1 (an 0) (am 0) (ah 0) ex5 ex6, pd E ap Vp, sc E an o.2.1, sc E am o.2.2.1, hb E ah (ak0 0) (ak1 0) (ak2 0) (ak3 0) (ak4 0) (ak5 0) o.2.2.2.1, sc E ak0 o.2.2.2.2.1, sc E ak1 o.2.2.2.2.2.1, sc E ak2 o.2.2.2.2.2.2.1, sc E ak3 o.2.2.2.2.2.2.2.1, sc E ak4 o.2.2.2.2.2.2.2.2.1, sc E ak5 o.2.2.2.2.2.2.2.2.2, gu]) := by
  refine MG.mk (own := RL) (lv0 := [(0, .ref (ax 0))]) (by decide) rfl (Nat.le_of_ble_eq_true rfl) rfl (fun X C K I => ?_)
  have h163 : ∀ s : St × St × Hb × St × St × St × St × St × St × Int32, b_L_empties_163 N Vp Vn Vm Vh Vk0 Vk1 Vk2 Vk3 Vk4 Vk5 ρ s = some o → G E X 5 [xo E ax (ap 0) ex1 (an 0) (am 0) (ah 0) ex5 ex6, pd E ap Vp, sc E an s.1, sc E am s.2.1, hb E ah (ak0 0) (ak1 0) (ak2 0) (ak3 0) (ak4 0) (ak5 0) s.2.2.1, sc E ak0 s.2.2.2.1, sc E ak1 s.2.2.2.2.1, sc E ak2 s.2.2.2.2.2.1, sc E ak3 s.2.2.2.2.2.2.1, sc E ak4 s.2.2.2.2.2.2.2.1, sc E ak5 s.2.2.2.2.2.2.2.2.1, gu] 0 0 [] [.int s.2.2.2.2.2.2.2.2.2] 163 := by
    intro s hf
    unfold b_L_empties_163 at hf
    obtain ⟨z1, hf⟩ := zb_s hf
    obtain rfl := Option.some.inj hf
    exact g_zret C K z1 dL_empties_163 (Nat.le_of_ble_eq_true rfl) (Nat.le_of_ble_eq_true rfl) ⟨rfl, rfl⟩
  have h162 : ∀ s : St × St × Hb × St × St × St × St × St × St, b_L_empties_162 N Vp Vn Vm Vh Vk0 Vk1 Vk2 Vk3 Vk4 Vk5 ρ s = some o → G E X 5 [xo E ax (ap 0) ex1 (an 0) (am 0) (ah 0) ex5 ex6, pd E ap Vp, sc E an s.1, sc E am s.2.1, hb E ah (ak0 0) (ak1 0) (ak2 0) (ak3 0) (ak4 0) (ak5 0) s.2.2.1, sc E ak0 s.2.2.2.1, sc E ak1 s.2.2.2.2.1, sc E ak2 s.2.2.2.2.2.1, sc E ak3 s.2.2.2.2.2.2.1, sc E ak4 s.2.2.2.2.2.2.2.1, sc E ak5 s.2.2.2.2.2.2.2.2, gu] 0 0 [] [] 162 := by
    intro s hf
    unfold b_L_empties_162 at hf
    refine g_iconst (v := (0 : Int32)) C dL_empties_162 (by decide) ?_
    exact h163 (s.1, s.2.1, s.2.2.1, s.2.2.2.1, s.2.2.2.2.1, s.2.2.2.2.2.1, s.2.2.2.2.2.2.1, s.2.2.2.2.2.2.2.1, s.2.2.2.2.2.2.2.2, (0 : Int32)) hf
  have h142 : ∀ s : St × St × Hb × St × St × St × St × St × St × Int32, b_L_empties_142 N Vp Vn Vm Vh Vk0 Vk1 Vk2 Vk3 Vk4 Vk5 ρ s = some o → G E X 5 [xo E ax (ap 0) ex1 (an 0) (am 0) (ah 0) ex5 ex6, pd E ap Vp, sc E an s.1, sc E am s.2.1, hb E ah (ak0 0) (ak1 0) (ak2 0) (ak3 0) (ak4 0) (ak5 0) s.2.2.1, sc E ak0 s.2.2.2.1, sc E ak1 s.2.2.2.2.1, sc E ak2 s.2.2.2.2.2.1, sc E ak3 s.2.2.2.2.2.2.1, sc E ak4 s.2.2.2.2.2.2.2.1, sc E ak5 s.2.2.2.2.2.2.2.2.1, gu] 0 0 [(0, .ref (ax 0)), (2, .int s.2.2.2.2.2.2.2.2.2)] [] 142 := by
    intro s hf
    unfold b_L_empties_142 at hf
    refine g_aload_n C dL_empties_142 rfl 0 rfl ?_
    obtain ⟨o2, hq3, hf⟩ := bind_s hf
    refine g_callV (As := []) (rest := []) C k_X5_undo (fun l => c_X5_undo (E := E) (ax := ax) (ex0 := (ap 0)) (ex1 := ex1) (ex3 := (am 0)) (ex5 := ex5) (ex6 := ex6) (an := an) (Vn := s.1) (ah := ah) (Vh := s.2.2.1) (ak0 := ak0) (Vk0 := s.2.2.2.1) (ak1 := ak1) (Vk1 := s.2.2.2.2.1) (ak2 := ak2) (Vk2 := s.2.2.2.2.2.1) (ak3 := ak3) (Vk3 := s.2.2.2.2.2.2.1) (ak4 := ak4) (Vk4 := s.2.2.2.2.2.2.2.1) (ak5 := ak5) (Vk5 := s.2.2.2.2.2.2.2.2.1) hq3 l) mt_613 [0, 2, 4, 5, 6, 7, 8, 9, 10] rfl (by decide) ⟨_, _, _, _, List.mem_flatten.mpr ⟨_, List.mem_of_getElem? (i := 0) rfl, List.mem_of_getElem? (i := 0) rfl⟩, rfl⟩ rfl (Nat.le_of_ble_eq_true rfl) ⟨Nat.le_of_ble_eq_true rfl, Nat.le_of_ble_eq_true rfl, Nat.le_of_ble_eq_true rfl, Nat.le_of_ble_eq_true rfl⟩ dL_empties_143 ?_
    rintro _ _ ⟨rfl, rfl⟩
    show G E X 5 [xo E ax (ap 0) ex1 (an 0) (am 0) (ah 0) ex5 ex6, pd E ap Vp, sc E an o2.2.1, sc E am s.2.1, hb E ah (ak0 0) (ak1 0) (ak2 0) (ak3 0) (ak4 0) (ak5 0) o2.2.2, sc E ak0 s.2.2.2.1, sc E ak1 s.2.2.2.2.1, sc E ak2 s.2.2.2.2.2.1, sc E ak3 s.2.2.2.2.2.2.1, sc E ak4 s.2.2.2.2.2.2.2.1, sc E ak5 s.2.2.2.2.2.2.2.2.1, gu] 0 0 [(0, .ref (ax 0)), (2, .int s.2.2.2.2.2.2.2.2.2)] [.int o2.1] 146
    refine g_if_lt (tgt := 162) C dL_empties_146 (by decide) (fun c4 => ?_) (fun c4 => ?_)
    · have hf := (f_if hf).1 c4
      refine g_sub (lv2 := []) [] rfl ?_
      exact h162 (o2.2.1, s.2.1, o2.2.2, s.2.2.2.1, s.2.2.2.2.1, s.2.2.2.2.2.1, s.2.2.2.2.2.2.1, s.2.2.2.2.2.2.2.1, s.2.2.2.2.2.2.2.2.1) hf
    · have hf := (f_if hf).2 c4
      refine g_aload_n C dL_empties_149 rfl 0 rfl ?_
      refine g_iconst (v := (1 : Int32)) C dL_empties_150 (by decide) ?_
      obtain ⟨o5, hq6, hf⟩ := bind_s hf
      refine g_callV (As := [.int (1 : Int32)]) (rest := []) C k_X5_count (fun l => c_X5_count (E := E) (ax := ax) (ex1 := ex1) (ex3 := (am 0)) (ex5 := ex5) (ex6 := ex6) (ap := ap) (Vp := Vp) (an := an) (Vn := o2.2.1) (ah := ah) (Vh := o2.2.2) (ak0 := ak0) (Vk0 := s.2.2.2.1) (ak1 := ak1) (Vk1 := s.2.2.2.2.1) (ak2 := ak2) (Vk2 := s.2.2.2.2.2.1) (ak3 := ak3) (Vk3 := s.2.2.2.2.2.2.1) (ak4 := ak4) (Vk4 := s.2.2.2.2.2.2.2.1) (ak5 := ak5) (Vk5 := s.2.2.2.2.2.2.2.2.1) hq6 l) mt_460 [0, 1, 2, 4, 5, 6, 7, 8, 9, 10] rfl (by decide) ⟨_, _, _, _, List.mem_flatten.mpr ⟨_, List.mem_of_getElem? (i := 0) rfl, List.mem_of_getElem? (i := 0) rfl⟩, rfl⟩ rfl (Nat.le_of_ble_eq_true rfl) ⟨Nat.le_of_ble_eq_true rfl, Nat.le_of_ble_eq_true rfl, Nat.le_of_ble_eq_true rfl, Nat.le_of_ble_eq_true rfl⟩ dL_empties_151 ?_
      rintro _ _ ⟨rfl, rfl⟩
      show G E X 5 [xo E ax (ap 0) ex1 (an 0) (am 0) (ah 0) ex5 ex6, pd E ap Vp, sc E an o2.2.1, sc E am s.2.1, hb E ah (ak0 0) (ak1 0) (ak2 0) (ak3 0) (ak4 0) (ak5 0) o2.2.2, sc E ak0 s.2.2.2.1, sc E ak1 s.2.2.2.2.1, sc E ak2 s.2.2.2.2.2.1, sc E ak3 s.2.2.2.2.2.2.1, sc E ak4 s.2.2.2.2.2.2.2.1, sc E ak5 s.2.2.2.2.2.2.2.2.1, gu] 0 0 [(0, .ref (ax 0)), (2, .int s.2.2.2.2.2.2.2.2.2)] [.int o5] 154
      refine g_iload_n C dL_empties_154 rfl 1 rfl ?_
      refine g_icmp_ne (tgt := 162) C dL_empties_155 (by decide) (fun c7 => ?_) (fun c7 => ?_)
      · have hf := (f_if hf).2 c7
        refine g_sub (lv2 := []) [] rfl ?_
        exact h162 (o2.2.1, s.2.1, o2.2.2, s.2.2.2.1, s.2.2.2.2.1, s.2.2.2.2.2.1, s.2.2.2.2.2.2.1, s.2.2.2.2.2.2.2.1, s.2.2.2.2.2.2.2.2.1) hf
      · have hf := (f_if hf).1 c7
        refine g_iconst (v := (1 : Int32)) C dL_empties_158 (by decide) ?_
        refine g_goto (tgt := 163) C dL_empties_159 (by decide) ?_
        refine g_sub (lv2 := []) [] rfl ?_
        exact h163 (o2.2.1, s.2.1, o2.2.2, s.2.2.2.1, s.2.2.2.2.1, s.2.2.2.2.2.1, s.2.2.2.2.2.2.1, s.2.2.2.2.2.2.2.1, s.2.2.2.2.2.2.2.2.1, (1 : Int32)) hf
  have h123 : ∀ s : St × St × Hb × St × St × St × St × St × St × Int32 × Int32 × Int32, b_L_empties_123 N Vp Vn Vm Vh Vk0 Vk1 Vk2 Vk3 Vk4 Vk5 ρ s = some o → G E X 5 [xo E ax (ap 0) ex1 (an 0) (am 0) (ah 0) ex5 ex6, pd E ap Vp, sc E an s.1, sc E am s.2.1, hb E ah (ak0 0) (ak1 0) (ak2 0) (ak3 0) (ak4 0) (ak5 0) s.2.2.1, sc E ak0 s.2.2.2.1, sc E ak1 s.2.2.2.2.1, sc E ak2 s.2.2.2.2.2.1, sc E ak3 s.2.2.2.2.2.2.1, sc E ak4 s.2.2.2.2.2.2.2.1, sc E ak5 s.2.2.2.2.2.2.2.2.1, gu] 0 0 [(0, .ref (ax 0)), (1, .int s.2.2.2.2.2.2.2.2.2.1), (2, .int s.2.2.2.2.2.2.2.2.2.2.1)] [.int s.2.2.2.2.2.2.2.2.2.2.2] 123 := by
    intro s hf
    unfold b_L_empties_123 at hf
    refine g_istore (lv2 := [(4, .int s.2.2.2.2.2.2.2.2.2.2.2), (0, .ref (ax 0)), (1, .int s.2.2.2.2.2.2.2.2.2.1), (2, .int s.2.2.2.2.2.2.2.2.2.2.1)]) C dL_empties_123 (by decide) rfl ?_
    refine g_iload C dL_empties_125 0 rfl ?_
    refine g_if_eq (tgt := 162) C dL_empties_127 (by decide) (fun c8 => ?_) (fun c8 => ?_)
    · have hf := (f_if hf).1 c8
      refine g_sub (lv2 := []) [] rfl ?_
      exact h162 (s.1, s.2.1, s.2.2.1, s.2.2.2.1, s.2.2.2.2.1, s.2.2.2.2.2.1, s.2.2.2.2.2.2.1, s.2.2.2.2.2.2.2.1, s.2.2.2.2.2.2.2.2.1) hf
    · have hf := (f_if hf).2 c8
      refine g_iload_n C dL_empties_130 rfl 2 rfl ?_
      refine g_iconst (v := (1 : Int32)) C dL_empties_131 (by decide) ?_
      refine g_icmp_eq (tgt := 142) C dL_empties_132 (by decide) (fun c9 => ?_) (fun c9 => ?_)
      · have hf := (f_if hf).1 c9
        refine g_sub (lv2 := [(0, .ref (ax 0)), (2, .int s.2.2.2.2.2.2.2.2.2.2.1)]) [1, 3] rfl ?_
        exact h142 (s.1, s.2.1, s.2.2.1, s.2.2.2.1, s.2.2.2.2.1, s.2.2.2.2.2.1, s.2.2.2.2.2.2.1, s.2.2.2.2.2.2.2.1, s.2.2.2.2.2.2.2.2.1, s.2.2.2.2.2.2.2.2.2.2.1) hf
      · have hf := (f_if hf).2 c9
        refine g_aload_n C dL_empties_135 rfl 1 rfl ?_
        obtain ⟨o10, hq11, hf⟩ := bind_s hf
        refine g_callV (As := []) (rest := []) C k_X5_undo (fun l => c_X5_undo (E := E) (ax := ax) (ex0 := (ap 0)) (ex1 := ex1) (ex3 := (am 0)) (ex5 := ex5) (ex6 := ex6) (an := an) (Vn := s.1) (ah := ah) (Vh := s.2.2.1) (ak0 := ak0) (Vk0 := s.2.2.2.1) (ak1 := ak1) (Vk1 := s.2.2.2.2.1) (ak2 := ak2) (Vk2 := s.2.2.2.2.2.1) (ak3 := ak3) (Vk3 := s.2.2.2.2.2.2.1) (ak4 := ak4) (Vk4 := s.2.2.2.2.2.2.2.1) (ak5 := ak5) (Vk5 := s.2.2.2.2.2.2.2.2.1) hq11 l) mt_613 [0, 2, 4, 5, 6, 7, 8, 9, 10] rfl (by decide) ⟨_, _, _, _, List.mem_flatten.mpr ⟨_, List.mem_of_getElem? (i := 0) rfl, List.mem_of_getElem? (i := 0) rfl⟩, rfl⟩ rfl (Nat.le_of_ble_eq_true rfl) ⟨Nat.le_of_ble_eq_true rfl, Nat.le_of_ble_eq_true rfl, Nat.le_of_ble_eq_true rfl, Nat.le_of_ble_eq_true rfl⟩ dL_empties_136 ?_
        rintro _ _ ⟨rfl, rfl⟩
        show G E X 5 [xo E ax (ap 0) ex1 (an 0) (am 0) (ah 0) ex5 ex6, pd E ap Vp, sc E an o10.2.1, sc E am s.2.1, hb E ah (ak0 0) (ak1 0) (ak2 0) (ak3 0) (ak4 0) (ak5 0) o10.2.2, sc E ak0 s.2.2.2.1, sc E ak1 s.2.2.2.2.1, sc E ak2 s.2.2.2.2.2.1, sc E ak3 s.2.2.2.2.2.2.1, sc E ak4 s.2.2.2.2.2.2.2.1, sc E ak5 s.2.2.2.2.2.2.2.2.1, gu] 0 0 [(4, .int s.2.2.2.2.2.2.2.2.2.2.2), (0, .ref (ax 0)), (1, .int s.2.2.2.2.2.2.2.2.2.1), (2, .int s.2.2.2.2.2.2.2.2.2.2.1)] [.int o10.1] 139
        refine g_if_lt (tgt := 162) C dL_empties_139 (by decide) (fun c12 => ?_) (fun c12 => ?_)
        · have hf := (f_if hf).1 c12
          refine g_sub (lv2 := []) [] rfl ?_
          exact h162 (o10.2.1, s.2.1, o10.2.2, s.2.2.2.1, s.2.2.2.2.1, s.2.2.2.2.2.1, s.2.2.2.2.2.2.1, s.2.2.2.2.2.2.2.1, s.2.2.2.2.2.2.2.2.1) hf
        · have hf := (f_if hf).2 c12
          refine g_sub (lv2 := [(0, .ref (ax 0)), (2, .int s.2.2.2.2.2.2.2.2.2.2.1)]) [1, 3] rfl ?_
          exact h142 (o10.2.1, s.2.1, o10.2.2, s.2.2.2.1, s.2.2.2.2.1, s.2.2.2.2.2.1, s.2.2.2.2.2.2.1, s.2.2.2.2.2.2.2.1, s.2.2.2.2.2.2.2.2.1, s.2.2.2.2.2.2.2.2.2.2.1) hf
  have h122 : ∀ s : St × St × Hb × St × St × St × St × St × St × Int32 × Int32, b_L_empties_122 N Vp Vn Vm Vh Vk0 Vk1 Vk2 Vk3 Vk4 Vk5 ρ s = some o → G E X 5 [xo E ax (ap 0) ex1 (an 0) (am 0) (ah 0) ex5 ex6, pd E ap Vp, sc E an s.1, sc E am s.2.1, hb E ah (ak0 0) (ak1 0) (ak2 0) (ak3 0) (ak4 0) (ak5 0) s.2.2.1, sc E ak0 s.2.2.2.1, sc E ak1 s.2.2.2.2.1, sc E ak2 s.2.2.2.2.2.1, sc E ak3 s.2.2.2.2.2.2.1, sc E ak4 s.2.2.2.2.2.2.2.1, sc E ak5 s.2.2.2.2.2.2.2.2.1, gu] 0 0 [(0, .ref (ax 0)), (1, .int s.2.2.2.2.2.2.2.2.2.1), (2, .int s.2.2.2.2.2.2.2.2.2.2)] [] 122 := by
    intro s hf
    unfold b_L_empties_122 at hf
    refine g_iconst (v := (0 : Int32)) C dL_empties_122 (by decide) ?_
    exact h123 (s.1, s.2.1, s.2.2.1, s.2.2.2.1, s.2.2.2.2.1, s.2.2.2.2.2.1, s.2.2.2.2.2.2.1, s.2.2.2.2.2.2.2.1, s.2.2.2.2.2.2.2.2.1, s.2.2.2.2.2.2.2.2.2.1, s.2.2.2.2.2.2.2.2.2.2, (0 : Int32)) hf
  have h84 : ∀ s : St × St × Hb × St × St × St × St × St × St × Int32 × Int32 × Int32, b_L_empties_84 N Vp Vn Vm Vh Vk0 Vk1 Vk2 Vk3 Vk4 Vk5 ρ s = some o → G E X 5 [xo E ax (ap 0) ex1 (an 0) (am 0) (ah 0) ex5 ex6, pd E ap Vp, sc E an s.1, sc E am s.2.1, hb E ah (ak0 0) (ak1 0) (ak2 0) (ak3 0) (ak4 0) (ak5 0) s.2.2.1, sc E ak0 s.2.2.2.1, sc E ak1 s.2.2.2.2.1, sc E ak2 s.2.2.2.2.2.1, sc E ak3 s.2.2.2.2.2.2.1, sc E ak4 s.2.2.2.2.2.2.2.1, sc E ak5 s.2.2.2.2.2.2.2.2.1, gu] 0 0 [(0, .ref (ax 0)), (1, .int s.2.2.2.2.2.2.2.2.2.1), (2, .int s.2.2.2.2.2.2.2.2.2.2.1), (3, .int s.2.2.2.2.2.2.2.2.2.2.2)] [] 84 := by
    intro s hf
    unfold b_L_empties_84 at hf
    refine g_aload_n C dL_empties_84 rfl 0 rfl ?_
    refine g_iconst (v := (1 : Int32)) C dL_empties_85 (by decide) ?_
    obtain ⟨R13, hq15, hf⟩ := bind_s hf
    obtain ⟨b14, ghq15⟩ := hgu _ _ hq15
    obtain ⟨o16, hq17, hf⟩ := bind_s hf
    refine g_callV (As := [.int (1 : Int32)]) (rest := []) C k_X5_pass (fun l => c_X5_pass (E := E) (ax := ax) (ex0 := (ap 0)) (ex1 := ex1) (ex3 := (am 0)) (ex5 := ex5) (ex6 := ex6) (an := an) (Vn := s.1) (ah := ah) (Vh := s.2.2.1) (ak0 := ak0) (Vk0 := s.2.2.2.1) (ak1 := ak1) (Vk1 := s.2.2.2.2.1) (ak2 := ak2) (Vk2 := s.2.2.2.2.2.1) (ak3 := ak3) (Vk3 := s.2.2.2.2.2.2.1) (ak4 := ak4) (Vk4 := s.2.2.2.2.2.2.2.1) (ak5 := ak5) (Vk5 := s.2.2.2.2.2.2.2.2.1) (gu := gu) (bu := b14) (Ru := R13) ghq15 hq17 l) mt_386 [0, 2, 4, 5, 6, 7, 8, 9, 10, 11] rfl (by decide) ⟨_, _, _, _, List.mem_flatten.mpr ⟨_, List.mem_of_getElem? (i := 0) rfl, List.mem_of_getElem? (i := 0) rfl⟩, rfl⟩ rfl (Nat.le_of_ble_eq_true rfl) ⟨Nat.le_of_ble_eq_true rfl, Nat.le_of_ble_eq_true rfl, Nat.le_of_ble_eq_true rfl, Nat.le_of_ble_eq_true rfl⟩ dL_empties_86 ?_
    rintro _ _ ⟨rfl, rfl⟩
    show G E X 5 [xo E ax (ap 0) ex1 (an 0) (am 0) (ah 0) ex5 ex6, pd E ap Vp, sc E an o16.2.1, sc E am s.2.1, hb E ah (ak0 0) (ak1 0) (ak2 0) (ak3 0) (ak4 0) (ak5 0) o16.2.2.1, sc E ak0 o16.2.2.2.1, sc E ak1 o16.2.2.2.2.1, sc E ak2 o16.2.2.2.2.2.1, sc E ak3 o16.2.2.2.2.2.2.1, sc E ak4 o16.2.2.2.2.2.2.2.1, sc E ak5 o16.2.2.2.2.2.2.2.2, gu] 0 0 [(0, .ref (ax 0)), (1, .int s.2.2.2.2.2.2.2.2.2.1), (2, .int s.2.2.2.2.2.2.2.2.2.2.1), (3, .int s.2.2.2.2.2.2.2.2.2.2.2)] [.int o16.1] 89
    refine g_if_le (tgt := 122) C dL_empties_89 (by decide) (fun c18 => ?_) (fun c18 => ?_)
    · have hf := (f_if hf).1 c18
      refine g_sub (lv2 := [(0, .ref (ax 0)), (1, .int s.2.2.2.2.2.2.2.2.2.1), (2, .int s.2.2.2.2.2.2.2.2.2.2.1)]) [0, 1, 2] rfl ?_
      exact h122 (o16.2.1, s.2.1, o16.2.2.1, o16.2.2.2.1, o16.2.2.2.2.1, o16.2.2.2.2.2.1, o16.2.2.2.2.2.2.1, o16.2.2.2.2.2.2.2.1, o16.2.2.2.2.2.2.2.2, s.2.2.2.2.2.2.2.2.2.1, s.2.2.2.2.2.2.2.2.2.2.1) hf
    · have hf := (f_if hf).2 c18
      refine g_aload_n C dL_empties_92 rfl 0 rfl ?_
      refine g_iconst (v := (1 : Int32)) C dL_empties_93 (by decide) ?_
      obtain ⟨o19, hq20, hf⟩ := bind_s hf
      refine g_callV (As := [.int (1 : Int32)]) (rest := []) C k_X5_count (fun l => c_X5_count (E := E) (ax := ax) (ex1 := ex1) (ex3 := (am 0)) (ex5 := ex5) (ex6 := ex6) (ap := ap) (Vp := Vp) (an := an) (Vn := o16.2.1) (ah := ah) (Vh := o16.2.2.1) (ak0 := ak0) (Vk0 := o16.2.2.2.1) (ak1 := ak1) (Vk1 := o16.2.2.2.2.1) (ak2 := ak2) (Vk2 := o16.2.2.2.2.2.1) (ak3 := ak3) (Vk3 := o16.2.2.2.2.2.2.1) (ak4 := ak4) (Vk4 := o16.2.2.2.2.2.2.2.1) (ak5 := ak5) (Vk5 := o16.2.2.2.2.2.2.2.2) hq20 l) mt_460 [0, 1, 2, 4, 5, 6, 7, 8, 9, 10] rfl (by decide) ⟨_, _, _, _, List.mem_flatten.mpr ⟨_, List.mem_of_getElem? (i := 0) rfl, List.mem_of_getElem? (i := 0) rfl⟩, rfl⟩ rfl (Nat.le_of_ble_eq_true rfl) ⟨Nat.le_of_ble_eq_true rfl, Nat.le_of_ble_eq_true rfl, Nat.le_of_ble_eq_true rfl, Nat.le_of_ble_eq_true rfl⟩ dL_empties_94 ?_
      rintro _ _ ⟨rfl, rfl⟩
      show G E X 5 [xo E ax (ap 0) ex1 (an 0) (am 0) (ah 0) ex5 ex6, pd E ap Vp, sc E an o16.2.1, sc E am s.2.1, hb E ah (ak0 0) (ak1 0) (ak2 0) (ak3 0) (ak4 0) (ak5 0) o16.2.2.1, sc E ak0 o16.2.2.2.1, sc E ak1 o16.2.2.2.2.1, sc E ak2 o16.2.2.2.2.2.1, sc E ak3 o16.2.2.2.2.2.2.1, sc E ak4 o16.2.2.2.2.2.2.2.1, sc E ak5 o16.2.2.2.2.2.2.2.2, gu] 0 0 [(0, .ref (ax 0)), (1, .int s.2.2.2.2.2.2.2.2.2.1), (2, .int s.2.2.2.2.2.2.2.2.2.2.1), (3, .int s.2.2.2.2.2.2.2.2.2.2.2)] [.int o19] 97
      refine g_if_ne (tgt := 122) C dL_empties_97 (by decide) (fun c21 => ?_) (fun c21 => ?_)
      · have hf := (f_if hf).2 c21
        refine g_sub (lv2 := [(0, .ref (ax 0)), (1, .int s.2.2.2.2.2.2.2.2.2.1), (2, .int s.2.2.2.2.2.2.2.2.2.2.1)]) [0, 1, 2] rfl ?_
        exact h122 (o16.2.1, s.2.1, o16.2.2.1, o16.2.2.2.1, o16.2.2.2.2.1, o16.2.2.2.2.2.1, o16.2.2.2.2.2.2.1, o16.2.2.2.2.2.2.2.1, o16.2.2.2.2.2.2.2.2, s.2.2.2.2.2.2.2.2.2.1, s.2.2.2.2.2.2.2.2.2.2.1) hf
      · have hf := (f_if hf).1 c21
        refine g_aload_n C dL_empties_100 rfl 0 rfl ?_
        refine g_iconst (v := (5 : Int32)) C dL_empties_101 (by decide) ?_
        obtain ⟨o22, hq23, hf⟩ := bind_s hf
        refine g_callV (As := [.int (5 : Int32)]) (rest := []) C k_X5_count (fun l => c_X5_count (E := E) (ax := ax) (ex1 := ex1) (ex3 := (am 0)) (ex5 := ex5) (ex6 := ex6) (ap := ap) (Vp := Vp) (an := an) (Vn := o16.2.1) (ah := ah) (Vh := o16.2.2.1) (ak0 := ak0) (Vk0 := o16.2.2.2.1) (ak1 := ak1) (Vk1 := o16.2.2.2.2.1) (ak2 := ak2) (Vk2 := o16.2.2.2.2.2.1) (ak3 := ak3) (Vk3 := o16.2.2.2.2.2.2.1) (ak4 := ak4) (Vk4 := o16.2.2.2.2.2.2.2.1) (ak5 := ak5) (Vk5 := o16.2.2.2.2.2.2.2.2) hq23 l) mt_460 [0, 1, 2, 4, 5, 6, 7, 8, 9, 10] rfl (by decide) ⟨_, _, _, _, List.mem_flatten.mpr ⟨_, List.mem_of_getElem? (i := 0) rfl, List.mem_of_getElem? (i := 0) rfl⟩, rfl⟩ rfl (Nat.le_of_ble_eq_true rfl) ⟨Nat.le_of_ble_eq_true rfl, Nat.le_of_ble_eq_true rfl, Nat.le_of_ble_eq_true rfl, Nat.le_of_ble_eq_true rfl⟩ dL_empties_102 ?_
        rintro _ _ ⟨rfl, rfl⟩
        show G E X 5 [xo E ax (ap 0) ex1 (an 0) (am 0) (ah 0) ex5 ex6, pd E ap Vp, sc E an o16.2.1, sc E am s.2.1, hb E ah (ak0 0) (ak1 0) (ak2 0) (ak3 0) (ak4 0) (ak5 0) o16.2.2.1, sc E ak0 o16.2.2.2.1, sc E ak1 o16.2.2.2.2.1, sc E ak2 o16.2.2.2.2.2.1, sc E ak3 o16.2.2.2.2.2.2.1, sc E ak4 o16.2.2.2.2.2.2.2.1, sc E ak5 o16.2.2.2.2.2.2.2.2, gu] 0 0 [(0, .ref (ax 0)), (1, .int s.2.2.2.2.2.2.2.2.2.1), (2, .int s.2.2.2.2.2.2.2.2.2.2.1), (3, .int s.2.2.2.2.2.2.2.2.2.2.2)] [.int o22] 105
        refine g_iload_n C dL_empties_105 rfl 3 rfl ?_
        refine g_iload_n C dL_empties_106 rfl 2 rfl ?_
        refine g_iadd C dL_empties_107 ?_
        refine g_icmp_ne (tgt := 122) C dL_empties_108 (by decide) (fun c24 => ?_) (fun c24 => ?_)
        · have hf := (f_if hf).2 c24
          refine g_sub (lv2 := [(0, .ref (ax 0)), (1, .int s.2.2.2.2.2.2.2.2.2.1), (2, .int s.2.2.2.2.2.2.2.2.2.2.1)]) [0, 1, 2] rfl ?_
          exact h122 (o16.2.1, s.2.1, o16.2.2.1, o16.2.2.2.1, o16.2.2.2.2.1, o16.2.2.2.2.2.1, o16.2.2.2.2.2.2.1, o16.2.2.2.2.2.2.2.1, o16.2.2.2.2.2.2.2.2, s.2.2.2.2.2.2.2.2.2.1, s.2.2.2.2.2.2.2.2.2.2.1) hf
        · have hf := (f_if hf).1 c24
          refine g_aload_n C dL_empties_111 rfl 0 rfl ?_
          obtain ⟨R25, hq27, hf⟩ := bind_s hf
          obtain ⟨b26, ghq27⟩ := hgu _ _ hq27
          obtain ⟨o28, hq29, hf⟩ := bind_s hf
          refine g_callV (As := []) (rest := []) C k_X5_emptyIn (fun l => c_X5_emptyIn (E := E) (ax := ax) (ex0 := (ap 0)) (ex1 := ex1) (ex4 := (ah 0)) (ex5 := ex5) (ex6 := ex6) (an := an) (Vn := o16.2.1) (am := am) (Vm := s.2.1) (gu := gu) (bu := b26) (Ru := R25) ghq27 hq29 l) mt_628 [0, 2, 3, 11] rfl (by decide) ⟨_, _, _, _, List.mem_flatten.mpr ⟨_, List.mem_of_getElem? (i := 0) rfl, List.mem_of_getElem? (i := 0) rfl⟩, rfl⟩ rfl (Nat.le_of_ble_eq_true rfl) ⟨Nat.le_of_ble_eq_true rfl, Nat.le_of_ble_eq_true rfl, Nat.le_of_ble_eq_true rfl, Nat.le_of_ble_eq_true rfl⟩ dL_empties_112 ?_
          rintro _ _ ⟨rfl, rfl⟩
          show G E X 5 [xo E ax (ap 0) ex1 (an 0) (am 0) (ah 0) ex5 ex6, pd E ap Vp, sc E an o16.2.1, sc E am o28.2, hb E ah (ak0 0) (ak1 0) (ak2 0) (ak3 0) (ak4 0) (ak5 0) o16.2.2.1, sc E ak0 o16.2.2.2.1, sc E ak1 o16.2.2.2.2.1, sc E ak2 o16.2.2.2.2.2.1, sc E ak3 o16.2.2.2.2.2.2.1, sc E ak4 o16.2.2.2.2.2.2.2.1, sc E ak5 o16.2.2.2.2.2.2.2.2, gu] 0 0 [(0, .ref (ax 0)), (1, .int s.2.2.2.2.2.2.2.2.2.1), (2, .int s.2.2.2.2.2.2.2.2.2.2.1), (3, .int s.2.2.2.2.2.2.2.2.2.2.2)] [.int o28.1] 115
          refine g_if_ne (tgt := 122) C dL_empties_115 (by decide) (fun c30 => ?_) (fun c30 => ?_)
          · have hf := (f_if hf).2 c30
            refine g_sub (lv2 := [(0, .ref (ax 0)), (1, .int s.2.2.2.2.2.2.2.2.2.1), (2, .int s.2.2.2.2.2.2.2.2.2.2.1)]) [0, 1, 2] rfl ?_
            exact h122 (o16.2.1, o28.2, o16.2.2.1, o16.2.2.2.1, o16.2.2.2.2.1, o16.2.2.2.2.2.1, o16.2.2.2.2.2.2.1, o16.2.2.2.2.2.2.2.1, o16.2.2.2.2.2.2.2.2, s.2.2.2.2.2.2.2.2.2.1, s.2.2.2.2.2.2.2.2.2.2.1) hf
          · have hf := (f_if hf).1 c30
            refine g_iconst (v := (1 : Int32)) C dL_empties_118 (by decide) ?_
            refine g_goto (tgt := 123) C dL_empties_119 (by decide) ?_
            refine g_sub (lv2 := [(0, .ref (ax 0)), (1, .int s.2.2.2.2.2.2.2.2.2.1), (2, .int s.2.2.2.2.2.2.2.2.2.2.1)]) [0, 1, 2] rfl ?_
            exact h123 (o16.2.1, o28.2, o16.2.2.1, o16.2.2.2.1, o16.2.2.2.2.1, o16.2.2.2.2.2.1, o16.2.2.2.2.2.2.1, o16.2.2.2.2.2.2.2.1, o16.2.2.2.2.2.2.2.2, s.2.2.2.2.2.2.2.2.2.1, s.2.2.2.2.2.2.2.2.2.2.1, (1 : Int32)) hf
  have h54 : ∀ s : St × Int32, b_L_empties_54 N Vp Vn Vm Vh Vk0 Vk1 Vk2 Vk3 Vk4 Vk5 ρ s = some o → G E X 5 [xo E ax (ap 0) ex1 (an 0) (am 0) (ah 0) ex5 ex6, pd E ap Vp, sc E an Vn, sc E am s.1, hb E ah (ak0 0) (ak1 0) (ak2 0) (ak3 0) (ak4 0) (ak5 0) Vh, sc E ak0 Vk0, sc E ak1 Vk1, sc E ak2 Vk2, sc E ak3 Vk3, sc E ak4 Vk4, sc E ak5 Vk5, gu] 0 0 [] [.int s.2] 54 := by
    intro s hf
    unfold b_L_empties_54 at hf
    obtain ⟨z31, hf⟩ := zb_s hf
    obtain rfl := Option.some.inj hf
    exact g_zret C K z31 dL_empties_54 (Nat.le_of_ble_eq_true rfl) (Nat.le_of_ble_eq_true rfl) ⟨rfl, rfl⟩
  have h46 : ∀ s : St × Int32 × Int32, b_L_empties_46 N Vp Vn Vm Vh Vk0 Vk1 Vk2 Vk3 Vk4 Vk5 ρ s = some o → G E X 5 [xo E ax (ap 0) ex1 (an 0) (am 0) (ah 0) ex5 ex6, pd E ap Vp, sc E an Vn, sc E am s.1, hb E ah (ak0 0) (ak1 0) (ak2 0) (ak3 0) (ak4 0) (ak5 0) Vh, sc E ak0 Vk0, sc E ak1 Vk1, sc E ak2 Vk2, sc E ak3 Vk3, sc E ak4 Vk4, sc E ak5 Vk5, gu] 0 0 [] [.int s.2.2, .int s.2.1] 46 := by
    intro s hf
    unfold b_L_empties_46 at hf
    refine g_icmp_ne (tgt := 53) C dL_empties_46 (by decide) (fun c32 => ?_) (fun c32 => ?_)
    · have hf := (f_if hf).2 c32
      refine g_iconst (v := (0 : Int32)) C dL_empties_53 (by decide) ?_
      exact h54 (s.1, (0 : Int32)) hf
    · have hf := (f_if hf).1 c32
      refine g_iconst (v := (1 : Int32)) C dL_empties_49 (by decide) ?_
      refine g_goto (tgt := 54) C dL_empties_50 (by decide) ?_
      exact h54 (s.1, (1 : Int32)) hf
  have h37 : ∀ s : St × Int32 × Int32, b_L_empties_37 N Vp Vn Vm Vh Vk0 Vk1 Vk2 Vk3 Vk4 Vk5 ρ s = some o → G E X 5 [xo E ax (ap 0) ex1 (an 0) (am 0) (ah 0) ex5 ex6, pd E ap Vp, sc E an Vn, sc E am s.1, hb E ah (ak0 0) (ak1 0) (ak2 0) (ak3 0) (ak4 0) (ak5 0) Vh, sc E ak0 Vk0, sc E ak1 Vk1, sc E ak2 Vk2, sc E ak3 Vk3, sc E ak4 Vk4, sc E ak5 Vk5, gu] 0 0 [(2, .int s.2.1)] [.int s.2.2] 37 := by
    intro s hf
    unfold b_L_empties_37 at hf
    refine g_iload_n C dL_empties_37 rfl 0 rfl ?_
    refine g_if_ne (tgt := 45) C dL_empties_38 (by decide) (fun c33 => ?_) (fun c33 => ?_)
    · have hf := (f_if hf).2 c33
      refine g_iconst (v := (0 : Int32)) C dL_empties_45 (by decide) ?_
      refine g_sub (lv2 := []) [] rfl ?_
      exact h46 (s.1, s.2.2, (0 : Int32)) hf
    · have hf := (f_if hf).1 c33
      refine g_iconst (v := (1 : Int32)) C dL_empties_41 (by decide) ?_
      refine g_goto (tgt := 46) C dL_empties_42 (by decide) ?_
      refine g_sub (lv2 := []) [] rfl ?_
      exact h46 (s.1, s.2.2, (1 : Int32)) hf
  have h28 : ∀ s : St × Int32 × Int32, b_L_empties_28 N Vp Vn Vm Vh Vk0 Vk1 Vk2 Vk3 Vk4 Vk5 ρ s = some o → G E X 5 [xo E ax (ap 0) ex1 (an 0) (am 0) (ah 0) ex5 ex6, pd E ap Vp, sc E an Vn, sc E am s.1, hb E ah (ak0 0) (ak1 0) (ak2 0) (ak3 0) (ak4 0) (ak5 0) Vh, sc E ak0 Vk0, sc E ak1 Vk1, sc E ak2 Vk2, sc E ak3 Vk3, sc E ak4 Vk4, sc E ak5 Vk5, gu] 0 0 [(1, .int s.2.1), (2, .int s.2.2)] [] 28 := by
    intro s hf
    unfold b_L_empties_28 at hf
    refine g_iload_n C dL_empties_28 rfl 0 rfl ?_
    refine g_if_ne (tgt := 36) C dL_empties_29 (by decide) (fun c34 => ?_) (fun c34 => ?_)
    · have hf := (f_if hf).2 c34
      refine g_iconst (v := (0 : Int32)) C dL_empties_36 (by decide) ?_
      refine g_sub (lv2 := [(2, .int s.2.2)]) [1] rfl ?_
      exact h37 (s.1, s.2.2, (0 : Int32)) hf
    · have hf := (f_if hf).1 c34
      refine g_iconst (v := (1 : Int32)) C dL_empties_32 (by decide) ?_
      refine g_goto (tgt := 37) C dL_empties_33 (by decide) ?_
      refine g_sub (lv2 := [(2, .int s.2.2)]) [1] rfl ?_
      exact h37 (s.1, s.2.2, (1 : Int32)) hf
  unfold f_L_empties at hf
  refine g_aload_n C dL_empties_0 rfl 0 rfl ?_
  obtain ⟨R35, hq37, hf⟩ := bind_s hf
  obtain ⟨b36, ghq37⟩ := hgu _ _ hq37
  obtain ⟨o38, hq39, hf⟩ := bind_s hf
  refine g_callV (As := []) (rest := []) C k_X5_emptyIn (fun l => c_X5_emptyIn (E := E) (ax := ax) (ex0 := (ap 0)) (ex1 := ex1) (ex4 := (ah 0)) (ex5 := ex5) (ex6 := ex6) (an := an) (Vn := Vn) (am := am) (Vm := Vm) (gu := gu) (bu := b36) (Ru := R35) ghq37 hq39 l) mt_628 [0, 2, 3, 11] rfl (by decide) ⟨_, _, _, _, List.mem_flatten.mpr ⟨_, List.mem_of_getElem? (i := 0) rfl, List.mem_of_getElem? (i := 0) rfl⟩, rfl⟩ rfl (Nat.le_of_ble_eq_true rfl) ⟨Nat.le_of_ble_eq_true rfl, Nat.le_of_ble_eq_true rfl, Nat.le_of_ble_eq_true rfl, Nat.le_of_ble_eq_true rfl⟩ dL_empties_1 ?_
  rintro _ _ ⟨rfl, rfl⟩
  show G E X 5 [xo E ax (ap 0) ex1 (an 0) (am 0) (ah 0) ex5 ex6, pd E ap Vp, sc E an Vn, sc E am o38.2, hb E ah (ak0 0) (ak1 0) (ak2 0) (ak3 0) (ak4 0) (ak5 0) Vh, sc E ak0 Vk0, sc E ak1 Vk1, sc E ak2 Vk2, sc E ak3 Vk3, sc E ak4 Vk4, sc E ak5 Vk5, gu] 0 0 [(0, .ref (ax 0))] [.int o38.1] 4
  refine g_istore_n (lv2 := [(1, .int o38.1), (0, .ref (ax 0))]) C dL_empties_4 rfl (by decide) rfl ?_
  refine g_aload_n C dL_empties_5 rfl 1 rfl ?_
  refine g_iconst (v := (1 : Int32)) C dL_empties_6 (by decide) ?_
  obtain ⟨o40, hq41, hf⟩ := bind_s hf
  refine g_callV (As := [.int (1 : Int32)]) (rest := []) C k_X5_count (fun l => c_X5_count (E := E) (ax := ax) (ex1 := ex1) (ex3 := (am 0)) (ex5 := ex5) (ex6 := ex6) (ap := ap) (Vp := Vp) (an := an) (Vn := Vn) (ah := ah) (Vh := Vh) (ak0 := ak0) (Vk0 := Vk0) (ak1 := ak1) (Vk1 := Vk1) (ak2 := ak2) (Vk2 := Vk2) (ak3 := ak3) (Vk3 := Vk3) (ak4 := ak4) (Vk4 := Vk4) (ak5 := ak5) (Vk5 := Vk5) hq41 l) mt_460 [0, 1, 2, 4, 5, 6, 7, 8, 9, 10] rfl (by decide) ⟨_, _, _, _, List.mem_flatten.mpr ⟨_, List.mem_of_getElem? (i := 0) rfl, List.mem_of_getElem? (i := 0) rfl⟩, rfl⟩ rfl (Nat.le_of_ble_eq_true rfl) ⟨Nat.le_of_ble_eq_true rfl, Nat.le_of_ble_eq_true rfl, Nat.le_of_ble_eq_true rfl, Nat.le_of_ble_eq_true rfl⟩ dL_empties_7 ?_
  rintro _ _ ⟨rfl, rfl⟩
  show G E X 5 [xo E ax (ap 0) ex1 (an 0) (am 0) (ah 0) ex5 ex6, pd E ap Vp, sc E an Vn, sc E am o38.2, hb E ah (ak0 0) (ak1 0) (ak2 0) (ak3 0) (ak4 0) (ak5 0) Vh, sc E ak0 Vk0, sc E ak1 Vk1, sc E ak2 Vk2, sc E ak3 Vk3, sc E ak4 Vk4, sc E ak5 Vk5, gu] 0 0 [(1, .int o38.1), (0, .ref (ax 0))] [.int o40] 10
  refine g_istore_n (lv2 := [(2, .int o40), (1, .int o38.1), (0, .ref (ax 0))]) C dL_empties_10 rfl (by decide) rfl ?_
  refine g_iload_n C dL_empties_11 rfl 1 rfl ?_
  refine g_if_eq (tgt := 28) C dL_empties_12 (by decide) (fun c42 => ?_) (fun c42 => ?_)
  · have hf := (f_if hf).1 c42
    refine g_sub (lv2 := [(1, .int o38.1), (2, .int o40)]) [1, 0] rfl ?_
    exact h28 (o38.2, o38.1, o40) hf
  · have hf := (f_if hf).2 c42
    refine g_iload_n C dL_empties_15 rfl 1 rfl ?_
    refine g_bipush (v := (-6 : Int32)) C dL_empties_16 (by decide) ?_
    refine g_icmp_eq (tgt := 28) C dL_empties_18 (by decide) (fun c43 => ?_) (fun c43 => ?_)
    · have hf := (f_if hf).1 c43
      refine g_sub (lv2 := [(1, .int o38.1), (2, .int o40)]) [1, 0] rfl ?_
      exact h28 (o38.2, o38.1, o40) hf
    · have hf := (f_if hf).2 c43
      refine g_iload_n C dL_empties_21 rfl 1 rfl ?_
      refine g_sipush (v := (900 : Int32)) C dL_empties_22 (by decide) ?_
      refine g_icmp_le (tgt := 55) C dL_empties_25 (by decide) (fun c44 => ?_) (fun c44 => ?_)
      · have hf := (f_if hf).1 c44
        refine g_aload_n C dL_empties_55 rfl 2 rfl ?_
        refine g_iconst (v := (5 : Int32)) C dL_empties_56 (by decide) ?_
        obtain ⟨o45, hq46, hf⟩ := bind_s hf
        refine g_callV (As := [.int (5 : Int32)]) (rest := []) C k_X5_count (fun l => c_X5_count (E := E) (ax := ax) (ex1 := ex1) (ex3 := (am 0)) (ex5 := ex5) (ex6 := ex6) (ap := ap) (Vp := Vp) (an := an) (Vn := Vn) (ah := ah) (Vh := Vh) (ak0 := ak0) (Vk0 := Vk0) (ak1 := ak1) (Vk1 := Vk1) (ak2 := ak2) (Vk2 := Vk2) (ak3 := ak3) (Vk3 := Vk3) (ak4 := ak4) (Vk4 := Vk4) (ak5 := ak5) (Vk5 := Vk5) hq46 l) mt_460 [0, 1, 2, 4, 5, 6, 7, 8, 9, 10] rfl (by decide) ⟨_, _, _, _, List.mem_flatten.mpr ⟨_, List.mem_of_getElem? (i := 0) rfl, List.mem_of_getElem? (i := 0) rfl⟩, rfl⟩ rfl (Nat.le_of_ble_eq_true rfl) ⟨Nat.le_of_ble_eq_true rfl, Nat.le_of_ble_eq_true rfl, Nat.le_of_ble_eq_true rfl, Nat.le_of_ble_eq_true rfl⟩ dL_empties_57 ?_
        rintro _ _ ⟨rfl, rfl⟩
        show G E X 5 [xo E ax (ap 0) ex1 (an 0) (am 0) (ah 0) ex5 ex6, pd E ap Vp, sc E an Vn, sc E am o38.2, hb E ah (ak0 0) (ak1 0) (ak2 0) (ak3 0) (ak4 0) (ak5 0) Vh, sc E ak0 Vk0, sc E ak1 Vk1, sc E ak2 Vk2, sc E ak3 Vk3, sc E ak4 Vk4, sc E ak5 Vk5, gu] 0 0 [(2, .int o40), (1, .int o38.1), (0, .ref (ax 0))] [.int o45] 60
        refine g_istore_n (lv2 := [(3, .int o45), (2, .int o40), (1, .int o38.1), (0, .ref (ax 0))]) C dL_empties_60 rfl (by decide) rfl ?_
        refine g_iload_n C dL_empties_61 rfl 2 rfl ?_
        refine g_iconst (v := (1 : Int32)) C dL_empties_62 (by decide) ?_
        refine g_icmp_eq (tgt := 84) C dL_empties_63 (by decide) (fun c47 => ?_) (fun c47 => ?_)
        · have hf := (f_if hf).1 c47
          refine g_sub (lv2 := [(0, .ref (ax 0)), (1, .int o38.1), (2, .int o40), (3, .int o45)]) [3, 2, 1, 0] rfl ?_
          exact h84 (Vn, o38.2, Vh, Vk0, Vk1, Vk2, Vk3, Vk4, Vk5, o38.1, o40, o45) hf
        · have hf := (f_if hf).2 c47
          refine g_aload_n C dL_empties_66 rfl 3 rfl ?_
          refine g_iload_n C dL_empties_67 rfl 2 rfl ?_
          refine g_iconst (v := (1 : Int32)) C dL_empties_68 (by decide) ?_
          refine g_isub C dL_empties_69 ?_
          obtain ⟨R48, hq50, hf⟩ := bind_s hf
          obtain ⟨b49, ghq50⟩ := hgu _ _ hq50
          obtain ⟨o51, hq52, hf⟩ := bind_s hf
          refine g_callV (As := [.int (o38.1 - (1 : Int32))]) (rest := []) C k_X5_pass (fun l => c_X5_pass (E := E) (ax := ax) (ex0 := (ap 0)) (ex1 := ex1) (ex3 := (am 0)) (ex5 := ex5) (ex6 := ex6) (an := an) (Vn := Vn) (ah := ah) (Vh := Vh) (ak0 := ak0) (Vk0 := Vk0) (ak1 := ak1) (Vk1 := Vk1) (ak2 := ak2) (Vk2 := Vk2) (ak3 := ak3) (Vk3 := Vk3) (ak4 := ak4) (Vk4 := Vk4) (ak5 := ak5) (Vk5 := Vk5) (gu := gu) (bu := b49) (Ru := R48) ghq50 hq52 l) mt_386 [0, 2, 4, 5, 6, 7, 8, 9, 10, 11] rfl (by decide) ⟨_, _, _, _, List.mem_flatten.mpr ⟨_, List.mem_of_getElem? (i := 0) rfl, List.mem_of_getElem? (i := 0) rfl⟩, rfl⟩ rfl (Nat.le_of_ble_eq_true rfl) ⟨Nat.le_of_ble_eq_true rfl, Nat.le_of_ble_eq_true rfl, Nat.le_of_ble_eq_true rfl, Nat.le_of_ble_eq_true rfl⟩ dL_empties_70 ?_
          rintro _ _ ⟨rfl, rfl⟩
          show G E X 5 [xo E ax (ap 0) ex1 (an 0) (am 0) (ah 0) ex5 ex6, pd E ap Vp, sc E an o51.2.1, sc E am o38.2, hb E ah (ak0 0) (ak1 0) (ak2 0) (ak3 0) (ak4 0) (ak5 0) o51.2.2.1, sc E ak0 o51.2.2.2.1, sc E ak1 o51.2.2.2.2.1, sc E ak2 o51.2.2.2.2.2.1, sc E ak3 o51.2.2.2.2.2.2.1, sc E ak4 o51.2.2.2.2.2.2.2.1, sc E ak5 o51.2.2.2.2.2.2.2.2, gu] 0 0 [(3, .int o45), (2, .int o40), (1, .int o38.1), (0, .ref (ax 0))] [.int o51.1] 73
          refine g_if_le (tgt := 122) C dL_empties_73 (by decide) (fun c53 => ?_) (fun c53 => ?_)
          · have hf := (f_if hf).1 c53
            refine g_sub (lv2 := [(0, .ref (ax 0)), (1, .int o38.1), (2, .int o40)]) [3, 2, 1] rfl ?_
            exact h122 (o51.2.1, o38.2, o51.2.2.1, o51.2.2.2.1, o51.2.2.2.2.1, o51.2.2.2.2.2.1, o51.2.2.2.2.2.2.1, o51.2.2.2.2.2.2.2.1, o51.2.2.2.2.2.2.2.2, o38.1, o40) hf
          · have hf := (f_if hf).2 c53
            refine g_aload_n C dL_empties_76 rfl 3 rfl ?_
            refine g_iconst (v := (1 : Int32)) C dL_empties_77 (by decide) ?_
            obtain ⟨o54, hq55, hf⟩ := bind_s hf
            refine g_callV (As := [.int (1 : Int32)]) (rest := []) C k_X5_count (fun l => c_X5_count (E := E) (ax := ax) (ex1 := ex1) (ex3 := (am 0)) (ex5 := ex5) (ex6 := ex6) (ap := ap) (Vp := Vp) (an := an) (Vn := o51.2.1) (ah := ah) (Vh := o51.2.2.1) (ak0 := ak0) (Vk0 := o51.2.2.2.1) (ak1 := ak1) (Vk1 := o51.2.2.2.2.1) (ak2 := ak2) (Vk2 := o51.2.2.2.2.2.1) (ak3 := ak3) (Vk3 := o51.2.2.2.2.2.2.1) (ak4 := ak4) (Vk4 := o51.2.2.2.2.2.2.2.1) (ak5 := ak5) (Vk5 := o51.2.2.2.2.2.2.2.2) hq55 l) mt_460 [0, 1, 2, 4, 5, 6, 7, 8, 9, 10] rfl (by decide) ⟨_, _, _, _, List.mem_flatten.mpr ⟨_, List.mem_of_getElem? (i := 0) rfl, List.mem_of_getElem? (i := 0) rfl⟩, rfl⟩ rfl (Nat.le_of_ble_eq_true rfl) ⟨Nat.le_of_ble_eq_true rfl, Nat.le_of_ble_eq_true rfl, Nat.le_of_ble_eq_true rfl, Nat.le_of_ble_eq_true rfl⟩ dL_empties_78 ?_
            rintro _ _ ⟨rfl, rfl⟩
            show G E X 5 [xo E ax (ap 0) ex1 (an 0) (am 0) (ah 0) ex5 ex6, pd E ap Vp, sc E an o51.2.1, sc E am o38.2, hb E ah (ak0 0) (ak1 0) (ak2 0) (ak3 0) (ak4 0) (ak5 0) o51.2.2.1, sc E ak0 o51.2.2.2.1, sc E ak1 o51.2.2.2.2.1, sc E ak2 o51.2.2.2.2.2.1, sc E ak3 o51.2.2.2.2.2.2.1, sc E ak4 o51.2.2.2.2.2.2.2.1, sc E ak5 o51.2.2.2.2.2.2.2.2, gu] 0 0 [(3, .int o45), (2, .int o40), (1, .int o38.1), (0, .ref (ax 0))] [.int o54] 81
            refine g_if_le (tgt := 122) C dL_empties_81 (by decide) (fun c56 => ?_) (fun c56 => ?_)
            · have hf := (f_if hf).1 c56
              refine g_sub (lv2 := [(0, .ref (ax 0)), (1, .int o38.1), (2, .int o40)]) [3, 2, 1] rfl ?_
              exact h122 (o51.2.1, o38.2, o51.2.2.1, o51.2.2.2.1, o51.2.2.2.2.1, o51.2.2.2.2.2.1, o51.2.2.2.2.2.2.1, o51.2.2.2.2.2.2.2.1, o51.2.2.2.2.2.2.2.2, o38.1, o40) hf
            · have hf := (f_if hf).2 c56
              refine g_sub (lv2 := [(0, .ref (ax 0)), (1, .int o38.1), (2, .int o40), (3, .int o45)]) [3, 2, 1, 0] rfl ?_
              exact h84 (o51.2.1, o38.2, o51.2.2.1, o51.2.2.2.1, o51.2.2.2.2.1, o51.2.2.2.2.2.1, o51.2.2.2.2.2.2.1, o51.2.2.2.2.2.2.2.1, o51.2.2.2.2.2.2.2.2, o38.1, o40, o45) hf
      · have hf := (f_if hf).2 c44
        refine g_sub (lv2 := [(1, .int o38.1), (2, .int o40)]) [1, 0] rfl ?_
        exact h28 (o38.2, o38.1, o40) hf
