section JRef
/-- the reference's rows: field, kind, length -/
def rfA : List (Nat × Nat × Nat) := [(1, 9, 800), (5, 10, 12), (6, 9, 10400), (7, 9, 13), (8, 9, 13), (9, 9, 13), (10, 9, 13), (11, 9, 2613), (12, 9, 2613), (13, 9, 2613), (14, 9, 2613), (15, 9, 2613), (17, 9, 2), (18, 9, 128), (19, 9, 2000), (28, 9, 2400), (29, 9, 2400), (30, 9, 9600), (32, 9, 40), (33, 9, 40)]
/-- how the reference lies: its rows are a, apart from each other -/
def RfL (E : jE) (P : jP) (m : Nat) (a : Nat → Nat) : Prop := jK E 7 m ∧ (∀ z ∈ rfA, P m z.1 = some (a z.1) ∧ jAr E z.2.1 (a z.1) z.2.2) ∧ ∀ y ∈ rfA, ∀ z ∈ rfA, a y.1 = a z.1 → y.1 = z.1
variable {E : jE} {P : jP} {m : Nat} {a : Nat → Nat}
theorem RfL.p1 (h : RfL E P m a) : P m 1 = some (a 1) := (h.2.1 (1, 9, 800) (by decide)).1
theorem RfL.a1 (h : RfL E P m a) : jAr E 9 (a 1) 800 := (h.2.1 (1, 9, 800) (by decide)).2
theorem RfL.n1 (h : RfL E P m a) : a 1 ≠ m := jne h.a1.2.1 h.1.2 (by decide)
theorem RfL.p5 (h : RfL E P m a) : P m 5 = some (a 5) := (h.2.1 (5, 10, 12) (by decide)).1
theorem RfL.a5 (h : RfL E P m a) : jAr E 10 (a 5) 12 := (h.2.1 (5, 10, 12) (by decide)).2
theorem RfL.n5 (h : RfL E P m a) : a 5 ≠ m := jne h.a5.2.1 h.1.2 (by decide)
theorem RfL.p6 (h : RfL E P m a) : P m 6 = some (a 6) := (h.2.1 (6, 9, 10400) (by decide)).1
theorem RfL.a6 (h : RfL E P m a) : jAr E 9 (a 6) 10400 := (h.2.1 (6, 9, 10400) (by decide)).2
theorem RfL.n6 (h : RfL E P m a) : a 6 ≠ m := jne h.a6.2.1 h.1.2 (by decide)
theorem RfL.p7 (h : RfL E P m a) : P m 7 = some (a 7) := (h.2.1 (7, 9, 13) (by decide)).1
theorem RfL.a7 (h : RfL E P m a) : jAr E 9 (a 7) 13 := (h.2.1 (7, 9, 13) (by decide)).2
theorem RfL.n7 (h : RfL E P m a) : a 7 ≠ m := jne h.a7.2.1 h.1.2 (by decide)
theorem RfL.p8 (h : RfL E P m a) : P m 8 = some (a 8) := (h.2.1 (8, 9, 13) (by decide)).1
theorem RfL.a8 (h : RfL E P m a) : jAr E 9 (a 8) 13 := (h.2.1 (8, 9, 13) (by decide)).2
theorem RfL.n8 (h : RfL E P m a) : a 8 ≠ m := jne h.a8.2.1 h.1.2 (by decide)
theorem RfL.p9 (h : RfL E P m a) : P m 9 = some (a 9) := (h.2.1 (9, 9, 13) (by decide)).1
theorem RfL.a9 (h : RfL E P m a) : jAr E 9 (a 9) 13 := (h.2.1 (9, 9, 13) (by decide)).2
theorem RfL.n9 (h : RfL E P m a) : a 9 ≠ m := jne h.a9.2.1 h.1.2 (by decide)
theorem RfL.p10 (h : RfL E P m a) : P m 10 = some (a 10) := (h.2.1 (10, 9, 13) (by decide)).1
theorem RfL.a10 (h : RfL E P m a) : jAr E 9 (a 10) 13 := (h.2.1 (10, 9, 13) (by decide)).2
theorem RfL.n10 (h : RfL E P m a) : a 10 ≠ m := jne h.a10.2.1 h.1.2 (by decide)
theorem RfL.p11 (h : RfL E P m a) : P m 11 = some (a 11) := (h.2.1 (11, 9, 2613) (by decide)).1
theorem RfL.a11 (h : RfL E P m a) : jAr E 9 (a 11) 2613 := (h.2.1 (11, 9, 2613) (by decide)).2
theorem RfL.n11 (h : RfL E P m a) : a 11 ≠ m := jne h.a11.2.1 h.1.2 (by decide)
theorem RfL.p12 (h : RfL E P m a) : P m 12 = some (a 12) := (h.2.1 (12, 9, 2613) (by decide)).1
theorem RfL.a12 (h : RfL E P m a) : jAr E 9 (a 12) 2613 := (h.2.1 (12, 9, 2613) (by decide)).2
theorem RfL.n12 (h : RfL E P m a) : a 12 ≠ m := jne h.a12.2.1 h.1.2 (by decide)
theorem RfL.p13 (h : RfL E P m a) : P m 13 = some (a 13) := (h.2.1 (13, 9, 2613) (by decide)).1
theorem RfL.a13 (h : RfL E P m a) : jAr E 9 (a 13) 2613 := (h.2.1 (13, 9, 2613) (by decide)).2
theorem RfL.n13 (h : RfL E P m a) : a 13 ≠ m := jne h.a13.2.1 h.1.2 (by decide)
theorem RfL.p14 (h : RfL E P m a) : P m 14 = some (a 14) := (h.2.1 (14, 9, 2613) (by decide)).1
theorem RfL.a14 (h : RfL E P m a) : jAr E 9 (a 14) 2613 := (h.2.1 (14, 9, 2613) (by decide)).2
theorem RfL.n14 (h : RfL E P m a) : a 14 ≠ m := jne h.a14.2.1 h.1.2 (by decide)
theorem RfL.p15 (h : RfL E P m a) : P m 15 = some (a 15) := (h.2.1 (15, 9, 2613) (by decide)).1
theorem RfL.a15 (h : RfL E P m a) : jAr E 9 (a 15) 2613 := (h.2.1 (15, 9, 2613) (by decide)).2
theorem RfL.n15 (h : RfL E P m a) : a 15 ≠ m := jne h.a15.2.1 h.1.2 (by decide)
theorem RfL.p17 (h : RfL E P m a) : P m 17 = some (a 17) := (h.2.1 (17, 9, 2) (by decide)).1
theorem RfL.a17 (h : RfL E P m a) : jAr E 9 (a 17) 2 := (h.2.1 (17, 9, 2) (by decide)).2
theorem RfL.n17 (h : RfL E P m a) : a 17 ≠ m := jne h.a17.2.1 h.1.2 (by decide)
theorem RfL.p18 (h : RfL E P m a) : P m 18 = some (a 18) := (h.2.1 (18, 9, 128) (by decide)).1
theorem RfL.a18 (h : RfL E P m a) : jAr E 9 (a 18) 128 := (h.2.1 (18, 9, 128) (by decide)).2
theorem RfL.n18 (h : RfL E P m a) : a 18 ≠ m := jne h.a18.2.1 h.1.2 (by decide)
theorem RfL.p19 (h : RfL E P m a) : P m 19 = some (a 19) := (h.2.1 (19, 9, 2000) (by decide)).1
theorem RfL.a19 (h : RfL E P m a) : jAr E 9 (a 19) 2000 := (h.2.1 (19, 9, 2000) (by decide)).2
theorem RfL.n19 (h : RfL E P m a) : a 19 ≠ m := jne h.a19.2.1 h.1.2 (by decide)
theorem RfL.p28 (h : RfL E P m a) : P m 28 = some (a 28) := (h.2.1 (28, 9, 2400) (by decide)).1
theorem RfL.a28 (h : RfL E P m a) : jAr E 9 (a 28) 2400 := (h.2.1 (28, 9, 2400) (by decide)).2
theorem RfL.n28 (h : RfL E P m a) : a 28 ≠ m := jne h.a28.2.1 h.1.2 (by decide)
theorem RfL.p29 (h : RfL E P m a) : P m 29 = some (a 29) := (h.2.1 (29, 9, 2400) (by decide)).1
theorem RfL.a29 (h : RfL E P m a) : jAr E 9 (a 29) 2400 := (h.2.1 (29, 9, 2400) (by decide)).2
theorem RfL.n29 (h : RfL E P m a) : a 29 ≠ m := jne h.a29.2.1 h.1.2 (by decide)
theorem RfL.p30 (h : RfL E P m a) : P m 30 = some (a 30) := (h.2.1 (30, 9, 9600) (by decide)).1
theorem RfL.a30 (h : RfL E P m a) : jAr E 9 (a 30) 9600 := (h.2.1 (30, 9, 9600) (by decide)).2
theorem RfL.n30 (h : RfL E P m a) : a 30 ≠ m := jne h.a30.2.1 h.1.2 (by decide)
theorem RfL.p32 (h : RfL E P m a) : P m 32 = some (a 32) := (h.2.1 (32, 9, 40) (by decide)).1
theorem RfL.a32 (h : RfL E P m a) : jAr E 9 (a 32) 40 := (h.2.1 (32, 9, 40) (by decide)).2
theorem RfL.n32 (h : RfL E P m a) : a 32 ≠ m := jne h.a32.2.1 h.1.2 (by decide)
theorem RfL.p33 (h : RfL E P m a) : P m 33 = some (a 33) := (h.2.1 (33, 9, 40) (by decide)).1
theorem RfL.a33 (h : RfL E P m a) : jAr E 9 (a 33) 40 := (h.2.1 (33, 9, 40) (by decide)).2
theorem RfL.n33 (h : RfL E P m a) : a 33 ≠ m := jne h.a33.2.1 h.1.2 (by decide)
def rfK : List Nat := [1, 5, 6, 7, 8, 9, 10, 11, 12, 13, 14, 15, 17, 18, 19, 28, 29, 30, 32, 33]
theorem RfL.d (h : RfL E P m a) {i j : Nat} (hi : i ∈ rfK) (hj : j ∈ rfK) (hne : i ≠ j) : a i ≠ a j := by
  have f : ∀ k, k ∈ rfK → ∃ z ∈ rfA, z.1 = k := by decide
  obtain ⟨y, hy, rfl⟩ := f i hi
  obtain ⟨z, hz, rfl⟩ := f j hj
  exact fun e => hne (h.2.2 y hy z hz e)
theorem jput_row {I : jI} {b c k : Nat} {v : Int} (h : c ≠ b) : jput I b k v c = I c := by funext j; exact jput_a I h
theorem RfL.rw (h : RfL E P m a) : ∀ (I : jI) (k : Nat) (v : Int), jput I m k v (a 1) = I (a 1) ∧ jput I m k v (a 5) = I (a 5) ∧ jput I m k v (a 6) = I (a 6) ∧ jput I m k v (a 7) = I (a 7) ∧ jput I m k v (a 8) = I (a 8) ∧ jput I m k v (a 9) = I (a 9) ∧ jput I m k v (a 10) = I (a 10) ∧ jput I m k v (a 11) = I (a 11) ∧ jput I m k v (a 12) = I (a 12) ∧ jput I m k v (a 13) = I (a 13) ∧ jput I m k v (a 14) = I (a 14) ∧ jput I m k v (a 15) = I (a 15) ∧ jput I m k v (a 17) = I (a 17) ∧ jput I m k v (a 18) = I (a 18) ∧ jput I m k v (a 19) = I (a 19) ∧ jput I m k v (a 28) = I (a 28) ∧ jput I m k v (a 29) = I (a 29) ∧ jput I m k v (a 30) = I (a 30) ∧ jput I m k v (a 32) = I (a 32) ∧ jput I m k v (a 33) = I (a 33) := fun I k v => ⟨jput_row h.n1, jput_row h.n5, jput_row h.n6, jput_row h.n7, jput_row h.n8, jput_row h.n9, jput_row h.n10, jput_row h.n11, jput_row h.n12, jput_row h.n13, jput_row h.n14, jput_row h.n15, jput_row h.n17, jput_row h.n18, jput_row h.n19, jput_row h.n28, jput_row h.n29, jput_row h.n30, jput_row h.n32, jput_row h.n33⟩
end JRef
