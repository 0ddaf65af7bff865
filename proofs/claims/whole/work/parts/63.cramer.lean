/-! Rings, the pure part: determinants of four rows, as the model tells them. -/
def zdt (a0 a1 a2 a3 b0 b1 b2 b3 c0 c1 c2 c3 d0 d1 d2 d3 : Int) : Int :=
  (a0 * b1 - a1 * b0) * (c2 * d3 - c3 * d2) - (a0 * b2 - a2 * b0) * (c1 * d3 - c3 * d1) + (a0 * b3 - a3 * b0) * (c1 * d2 - c2 * d1) + (a1 * b2 - a2 * b1) * (c0 * d3 - c3 * d0) - (a1 * b3 - a3 * b1) * (c0 * d2 - c2 * d0) + (a2 * b3 - a3 * b2) * (c0 * d1 - c1 * d0)
theorem zcramer0 (a0 a1 a2 a3 b0 b1 b2 b3 c0 c1 c2 c3 d0 d1 d2 d3 r0 r1 r2 r3 : Int) :
    a0 * zdt r0 a1 a2 a3 r1 b1 b2 b3 r2 c1 c2 c3 r3 d1 d2 d3 + a1 * zdt a0 r0 a2 a3 b0 r1 b2 b3 c0 r2 c2 c3 d0 r3 d2 d3 + a2 * zdt a0 a1 r0 a3 b0 b1 r1 b3 c0 c1 r2 c3 d0 d1 r3 d3 + a3 * zdt a0 a1 a2 r0 b0 b1 b2 r1 c0 c1 c2 r2 d0 d1 d2 r3 = r0 * zdt a0 a1 a2 a3 b0 b1 b2 b3 c0 c1 c2 c3 d0 d1 d2 d3 := by
  unfold zdt
  grind
theorem zcramer1 (a0 a1 a2 a3 b0 b1 b2 b3 c0 c1 c2 c3 d0 d1 d2 d3 r0 r1 r2 r3 : Int) :
    b0 * zdt r0 a1 a2 a3 r1 b1 b2 b3 r2 c1 c2 c3 r3 d1 d2 d3 + b1 * zdt a0 r0 a2 a3 b0 r1 b2 b3 c0 r2 c2 c3 d0 r3 d2 d3 + b2 * zdt a0 a1 r0 a3 b0 b1 r1 b3 c0 c1 r2 c3 d0 d1 r3 d3 + b3 * zdt a0 a1 a2 r0 b0 b1 b2 r1 c0 c1 c2 r2 d0 d1 d2 r3 = r1 * zdt a0 a1 a2 a3 b0 b1 b2 b3 c0 c1 c2 c3 d0 d1 d2 d3 := by
  unfold zdt
  grind
theorem zcramer2 (a0 a1 a2 a3 b0 b1 b2 b3 c0 c1 c2 c3 d0 d1 d2 d3 r0 r1 r2 r3 : Int) :
    c0 * zdt r0 a1 a2 a3 r1 b1 b2 b3 r2 c1 c2 c3 r3 d1 d2 d3 + c1 * zdt a0 r0 a2 a3 b0 r1 b2 b3 c0 r2 c2 c3 d0 r3 d2 d3 + c2 * zdt a0 a1 r0 a3 b0 b1 r1 b3 c0 c1 r2 c3 d0 d1 r3 d3 + c3 * zdt a0 a1 a2 r0 b0 b1 b2 r1 c0 c1 c2 r2 d0 d1 d2 r3 = r2 * zdt a0 a1 a2 a3 b0 b1 b2 b3 c0 c1 c2 c3 d0 d1 d2 d3 := by
  unfold zdt
  grind
theorem zcramer3 (a0 a1 a2 a3 b0 b1 b2 b3 c0 c1 c2 c3 d0 d1 d2 d3 r0 r1 r2 r3 : Int) :
    d0 * zdt r0 a1 a2 a3 r1 b1 b2 b3 r2 c1 c2 c3 r3 d1 d2 d3 + d1 * zdt a0 r0 a2 a3 b0 r1 b2 b3 c0 r2 c2 c3 d0 r3 d2 d3 + d2 * zdt a0 a1 r0 a3 b0 b1 r1 b3 c0 c1 r2 c3 d0 d1 r3 d3 + d3 * zdt a0 a1 a2 r0 b0 b1 b2 r1 c0 c1 c2 r2 d0 d1 d2 r3 = r3 * zdt a0 a1 a2 a3 b0 b1 b2 b3 c0 c1 c2 c3 d0 d1 d2 d3 := by
  unfold zdt
  grind
