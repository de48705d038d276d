/-! The two worlds: the class's cells (0 the object, 1 goods, 2 arrivals, 3 orders, 4 takings, 5.. their arrays), the reference's cells (0 the object, 1.. its arrays). -/
def up1 (n : Nat → Nat) (k v : Nat) : Nat → Nat := fun a => if a = k then v else n a
def up2 (f : Nat → Nat → Nat) (k x v : Nat) : Nat → Nat → Nat := fun a b => if a = k then (if b = x then v else f k b) else f a b
def up3 (f : Nat → Nat → Int) (k x : Nat) (v : Int) : Nat → Nat → Int := fun a b => if a = k then (if b = x then v else f k b) else f a b
abbrev pf_S : Type := (Nat → Nat) × (Nat → Nat → Nat)
abbrev md_S : Type := (Nat → Nat) × (Nat → Nat → Nat) × (Nat → Nat → Int)
def pw (G : gw_G) (q : Nat → Nat) (u : pf_S) : va_W := [(q 0, .inr (4, [.ref (q 1), .ref (q 2), .ref (q 3), .ref (q 4)])), (q 1, .inr (1, [.ref (q 5), .ref (q 6), .ref (q 7), .ref (q 8), .ref (q 9)])), (q 2, .inr (0, [.int (nI (u.1 0)), .ref (q 10), .ref (q 11), .ref (q 12), .ref (q 13)])), (q 3, .inr (2, [.int (nI (u.1 1)), .ref (q 14), .ref (q 15), .ref (q 16), .ref (q 17), .ref (q 18), .ref (q 19)])), (q 4, .inr (3, [.int (nI (u.1 2)), .ref (q 20), .ref (q 21), .ref (q 22), .ref (q 23), .ref (q 24), .ref (q 25), .ref (q 26), .ref (q 27), .ref (q 28)])), (q 5, .inl (G.2.1, 6, .inl (fun j => nI (u.2 5 j)))), (q 6, .inl (G.2.2.1, 36, .inl (fun j => nI (u.2 6 j)))), (q 7, .inl (G.2.1, 6, .inl (fun j => nI (u.2 7 j)))), (q 8, .inl (G.2.1, 18, .inl (fun j => nI (u.2 8 j)))), (q 9, .inl (G.2.1, 18, .inl (fun j => nI (u.2 9 j)))), (q 10, .inl (G.2.1, 10, .inl (fun j => nI (u.2 10 j)))), (q 11, .inl (G.2.1, 10, .inl (fun j => nI (u.2 11 j)))), (q 12, .inl (G.2.1, 10, .inl (fun j => nI (u.2 12 j)))), (q 13, .inl (G.2.1, 10, .inl (fun j => nI (u.2 13 j)))), (q 14, .inl (G.2.1, 10, .inl (fun j => nI (u.2 14 j)))), (q 15, .inl (G.2.1, 10, .inl (fun j => nI (u.2 15 j)))), (q 16, .inl (G.2.1, 10, .inl (fun j => nI (u.2 16 j)))), (q 17, .inl (G.2.1, 10, .inl (fun j => nI (u.2 17 j)))), (q 18, .inl (G.2.1, 10, .inl (fun j => nI (u.2 18 j)))), (q 19, .inl (G.2.1, 10, .inl (fun j => nI (u.2 19 j)))), (q 20, .inl (G.2.1, 10, .inl (fun j => nI (u.2 20 j)))), (q 21, .inl (G.2.1, 10, .inl (fun j => nI (u.2 21 j)))), (q 22, .inl (G.2.1, 310, .inl (fun j => nI (u.2 22 j)))), (q 23, .inl (G.2.1, 31, .inl (fun j => nI (u.2 23 j)))), (q 24, .inl (G.2.1, 10, .inl (fun j => nI (u.2 24 j)))), (q 25, .inl (G.2.1, 310, .inl (fun j => nI (u.2 25 j)))), (q 26, .inl (G.2.1, 10, .inl (fun j => nI (u.2 26 j)))), (q 27, .inl (G.2.1, 10, .inl (fun j => nI (u.2 27 j)))), (q 28, .inl (G.2.1, 10, .inl (fun j => nI (u.2 28 j))))]
def mw (G : gw_G) (q : Nat → Nat) (u : md_S) : va_W := [(q 0, .inr (5, [.int (nI (u.1 0)), .ref (q 1), .ref (q 2), .ref (q 3), .ref (q 4), .ref (q 5), .int (nI (u.1 1)), .ref (q 6), .ref (q 7), .ref (q 8), .ref (q 9), .int (nI (u.1 2)), .ref (q 10), .ref (q 11), .ref (q 12), .ref (q 13), .ref (q 14), .int (nI (u.1 3)), .ref (q 15), .ref (q 16), .ref (q 17), .ref (q 18), .ref (q 19), .int (nI (u.1 4)), .ref (q 20), .ref (q 21), .ref (q 22), .ref (q 23), .ref (q 24)])), (q 1, .inl (G.2.1, 6, .inl (fun j => nI (u.2.1 1 j)))), (q 2, .inl (G.2.1, 6, .inl (fun j => nI (u.2.1 2 j)))), (q 3, .inl (G.2.1, 6, .inl (fun j => nI (u.2.1 3 j)))), (q 4, .inl (G.2.1, 18, .inl (fun j => nI (u.2.1 4 j)))), (q 5, .inl (G.2.1, 18, .inl (fun j => nI (u.2.1 5 j)))), (q 6, .inl (G.2.1, 10, .inl (fun j => nI (u.2.1 6 j)))), (q 7, .inl (G.2.1, 10, .inl (fun j => nI (u.2.1 7 j)))), (q 8, .inl (G.2.1, 10, .inl (fun j => nI (u.2.1 8 j)))), (q 9, .inl (G.2.1, 10, .inl (fun j => nI (u.2.1 9 j)))), (q 10, .inl (G.2.1, 10, .inl (fun j => nI (u.2.1 10 j)))), (q 11, .inl (G.2.1, 10, .inl (fun j => nI (u.2.1 11 j)))), (q 12, .inl (G.2.1, 10, .inl (fun j => nI (u.2.1 12 j)))), (q 13, .inl (G.2.1, 10, .inl (fun j => nI (u.2.1 13 j)))), (q 14, .inl (G.2.1, 10, .inl (fun j => nI (u.2.1 14 j)))), (q 15, .inl (G.2.1, 40, .inl (fun j => nI (u.2.1 15 j)))), (q 16, .inl (G.2.1, 40, .inl (fun j => nI (u.2.1 16 j)))), (q 17, .inl (G.2.2.2, 40, .inr (.inl (fun j => Int64.ofInt (u.2.2 17 j))))), (q 18, .inl (G.2.1, 40, .inl (fun j => nI (u.2.1 18 j)))), (q 19, .inl (G.2.2.2, 10, .inr (.inl (fun j => Int64.ofInt (u.2.2 19 j))))), (q 20, .inl (G.2.1, 400, .inl (fun j => nI (u.2.1 20 j)))), (q 21, .inl (G.2.1, 400, .inl (fun j => nI (u.2.1 21 j)))), (q 22, .inl (G.2.1, 400, .inl (fun j => nI (u.2.1 22 j)))), (q 23, .inl (G.2.1, 400, .inl (fun j => nI (u.2.1 23 j)))), (q 24, .inl (G.2.1, 400, .inl (fun j => nI (u.2.1 24 j))))]
section WRL
variable {G : gw_G} {q : Nat → Nat} {u : pf_S} {x v : Nat}
theorem pw_at0 : (pw G q u)[0]? = some (q 0, .inr (4, [.ref (q 1), .ref (q 2), .ref (q 3), .ref (q 4)])) := rfl
theorem pw_at1 : (pw G q u)[1]? = some (q 1, .inr (1, [.ref (q 5), .ref (q 6), .ref (q 7), .ref (q 8), .ref (q 9)])) := rfl
theorem pw_at2 : (pw G q u)[2]? = some (q 2, .inr (0, [.int (nI (u.1 0)), .ref (q 10), .ref (q 11), .ref (q 12), .ref (q 13)])) := rfl
theorem pw_at3 : (pw G q u)[3]? = some (q 3, .inr (2, [.int (nI (u.1 1)), .ref (q 14), .ref (q 15), .ref (q 16), .ref (q 17), .ref (q 18), .ref (q 19)])) := rfl
theorem pw_at4 : (pw G q u)[4]? = some (q 4, .inr (3, [.int (nI (u.1 2)), .ref (q 20), .ref (q 21), .ref (q 22), .ref (q 23), .ref (q 24), .ref (q 25), .ref (q 26), .ref (q 27), .ref (q 28)])) := rfl
theorem pw_at5 : (pw G q u)[5]? = some (q 5, .inl (G.2.1, 6, .inl (fun j => nI (u.2 5 j)))) := rfl
theorem pw_set5 : (pw G q u).set 5 (q 5, .inl (G.2.1, 6, .inl (fun j => nI (if j = x then v else u.2 5 j)))) = pw G q (u.1, up2 u.2 5 x v) := rfl
theorem pw_at6 : (pw G q u)[6]? = some (q 6, .inl (G.2.2.1, 36, .inl (fun j => nI (u.2 6 j)))) := rfl
theorem pw_set6 : (pw G q u).set 6 (q 6, .inl (G.2.2.1, 36, .inl (fun j => nI (if j = x then v else u.2 6 j)))) = pw G q (u.1, up2 u.2 6 x v) := rfl
theorem pw_at7 : (pw G q u)[7]? = some (q 7, .inl (G.2.1, 6, .inl (fun j => nI (u.2 7 j)))) := rfl
theorem pw_set7 : (pw G q u).set 7 (q 7, .inl (G.2.1, 6, .inl (fun j => nI (if j = x then v else u.2 7 j)))) = pw G q (u.1, up2 u.2 7 x v) := rfl
theorem pw_at8 : (pw G q u)[8]? = some (q 8, .inl (G.2.1, 18, .inl (fun j => nI (u.2 8 j)))) := rfl
theorem pw_set8 : (pw G q u).set 8 (q 8, .inl (G.2.1, 18, .inl (fun j => nI (if j = x then v else u.2 8 j)))) = pw G q (u.1, up2 u.2 8 x v) := rfl
theorem pw_at9 : (pw G q u)[9]? = some (q 9, .inl (G.2.1, 18, .inl (fun j => nI (u.2 9 j)))) := rfl
theorem pw_set9 : (pw G q u).set 9 (q 9, .inl (G.2.1, 18, .inl (fun j => nI (if j = x then v else u.2 9 j)))) = pw G q (u.1, up2 u.2 9 x v) := rfl
theorem pw_at10 : (pw G q u)[10]? = some (q 10, .inl (G.2.1, 10, .inl (fun j => nI (u.2 10 j)))) := rfl
theorem pw_set10 : (pw G q u).set 10 (q 10, .inl (G.2.1, 10, .inl (fun j => nI (if j = x then v else u.2 10 j)))) = pw G q (u.1, up2 u.2 10 x v) := rfl
theorem pw_at11 : (pw G q u)[11]? = some (q 11, .inl (G.2.1, 10, .inl (fun j => nI (u.2 11 j)))) := rfl
theorem pw_set11 : (pw G q u).set 11 (q 11, .inl (G.2.1, 10, .inl (fun j => nI (if j = x then v else u.2 11 j)))) = pw G q (u.1, up2 u.2 11 x v) := rfl
theorem pw_at12 : (pw G q u)[12]? = some (q 12, .inl (G.2.1, 10, .inl (fun j => nI (u.2 12 j)))) := rfl
theorem pw_set12 : (pw G q u).set 12 (q 12, .inl (G.2.1, 10, .inl (fun j => nI (if j = x then v else u.2 12 j)))) = pw G q (u.1, up2 u.2 12 x v) := rfl
theorem pw_at13 : (pw G q u)[13]? = some (q 13, .inl (G.2.1, 10, .inl (fun j => nI (u.2 13 j)))) := rfl
theorem pw_set13 : (pw G q u).set 13 (q 13, .inl (G.2.1, 10, .inl (fun j => nI (if j = x then v else u.2 13 j)))) = pw G q (u.1, up2 u.2 13 x v) := rfl
theorem pw_at14 : (pw G q u)[14]? = some (q 14, .inl (G.2.1, 10, .inl (fun j => nI (u.2 14 j)))) := rfl
theorem pw_set14 : (pw G q u).set 14 (q 14, .inl (G.2.1, 10, .inl (fun j => nI (if j = x then v else u.2 14 j)))) = pw G q (u.1, up2 u.2 14 x v) := rfl
theorem pw_at15 : (pw G q u)[15]? = some (q 15, .inl (G.2.1, 10, .inl (fun j => nI (u.2 15 j)))) := rfl
theorem pw_set15 : (pw G q u).set 15 (q 15, .inl (G.2.1, 10, .inl (fun j => nI (if j = x then v else u.2 15 j)))) = pw G q (u.1, up2 u.2 15 x v) := rfl
theorem pw_at16 : (pw G q u)[16]? = some (q 16, .inl (G.2.1, 10, .inl (fun j => nI (u.2 16 j)))) := rfl
theorem pw_set16 : (pw G q u).set 16 (q 16, .inl (G.2.1, 10, .inl (fun j => nI (if j = x then v else u.2 16 j)))) = pw G q (u.1, up2 u.2 16 x v) := rfl
theorem pw_at17 : (pw G q u)[17]? = some (q 17, .inl (G.2.1, 10, .inl (fun j => nI (u.2 17 j)))) := rfl
theorem pw_set17 : (pw G q u).set 17 (q 17, .inl (G.2.1, 10, .inl (fun j => nI (if j = x then v else u.2 17 j)))) = pw G q (u.1, up2 u.2 17 x v) := rfl
theorem pw_at18 : (pw G q u)[18]? = some (q 18, .inl (G.2.1, 10, .inl (fun j => nI (u.2 18 j)))) := rfl
theorem pw_set18 : (pw G q u).set 18 (q 18, .inl (G.2.1, 10, .inl (fun j => nI (if j = x then v else u.2 18 j)))) = pw G q (u.1, up2 u.2 18 x v) := rfl
theorem pw_at19 : (pw G q u)[19]? = some (q 19, .inl (G.2.1, 10, .inl (fun j => nI (u.2 19 j)))) := rfl
theorem pw_set19 : (pw G q u).set 19 (q 19, .inl (G.2.1, 10, .inl (fun j => nI (if j = x then v else u.2 19 j)))) = pw G q (u.1, up2 u.2 19 x v) := rfl
theorem pw_at20 : (pw G q u)[20]? = some (q 20, .inl (G.2.1, 10, .inl (fun j => nI (u.2 20 j)))) := rfl
theorem pw_set20 : (pw G q u).set 20 (q 20, .inl (G.2.1, 10, .inl (fun j => nI (if j = x then v else u.2 20 j)))) = pw G q (u.1, up2 u.2 20 x v) := rfl
theorem pw_at21 : (pw G q u)[21]? = some (q 21, .inl (G.2.1, 10, .inl (fun j => nI (u.2 21 j)))) := rfl
theorem pw_set21 : (pw G q u).set 21 (q 21, .inl (G.2.1, 10, .inl (fun j => nI (if j = x then v else u.2 21 j)))) = pw G q (u.1, up2 u.2 21 x v) := rfl
theorem pw_at22 : (pw G q u)[22]? = some (q 22, .inl (G.2.1, 310, .inl (fun j => nI (u.2 22 j)))) := rfl
theorem pw_set22 : (pw G q u).set 22 (q 22, .inl (G.2.1, 310, .inl (fun j => nI (if j = x then v else u.2 22 j)))) = pw G q (u.1, up2 u.2 22 x v) := rfl
theorem pw_at23 : (pw G q u)[23]? = some (q 23, .inl (G.2.1, 31, .inl (fun j => nI (u.2 23 j)))) := rfl
theorem pw_set23 : (pw G q u).set 23 (q 23, .inl (G.2.1, 31, .inl (fun j => nI (if j = x then v else u.2 23 j)))) = pw G q (u.1, up2 u.2 23 x v) := rfl
theorem pw_at24 : (pw G q u)[24]? = some (q 24, .inl (G.2.1, 10, .inl (fun j => nI (u.2 24 j)))) := rfl
theorem pw_set24 : (pw G q u).set 24 (q 24, .inl (G.2.1, 10, .inl (fun j => nI (if j = x then v else u.2 24 j)))) = pw G q (u.1, up2 u.2 24 x v) := rfl
theorem pw_at25 : (pw G q u)[25]? = some (q 25, .inl (G.2.1, 310, .inl (fun j => nI (u.2 25 j)))) := rfl
theorem pw_set25 : (pw G q u).set 25 (q 25, .inl (G.2.1, 310, .inl (fun j => nI (if j = x then v else u.2 25 j)))) = pw G q (u.1, up2 u.2 25 x v) := rfl
theorem pw_at26 : (pw G q u)[26]? = some (q 26, .inl (G.2.1, 10, .inl (fun j => nI (u.2 26 j)))) := rfl
theorem pw_set26 : (pw G q u).set 26 (q 26, .inl (G.2.1, 10, .inl (fun j => nI (if j = x then v else u.2 26 j)))) = pw G q (u.1, up2 u.2 26 x v) := rfl
theorem pw_at27 : (pw G q u)[27]? = some (q 27, .inl (G.2.1, 10, .inl (fun j => nI (u.2 27 j)))) := rfl
theorem pw_set27 : (pw G q u).set 27 (q 27, .inl (G.2.1, 10, .inl (fun j => nI (if j = x then v else u.2 27 j)))) = pw G q (u.1, up2 u.2 27 x v) := rfl
theorem pw_at28 : (pw G q u)[28]? = some (q 28, .inl (G.2.1, 10, .inl (fun j => nI (u.2 28 j)))) := rfl
theorem pw_set28 : (pw G q u).set 28 (q 28, .inl (G.2.1, 10, .inl (fun j => nI (if j = x then v else u.2 28 j)))) = pw G q (u.1, up2 u.2 28 x v) := rfl
theorem pw_num0 : (pw G q u).set 2 (q 2, .inr (0, [.int (nI (u.1 0)), .ref (q 10), .ref (q 11), .ref (q 12), .ref (q 13)].set 0 (.int (nI v)))) = pw G q (up1 u.1 0 v, u.2) := rfl
theorem pw_num1 : (pw G q u).set 3 (q 3, .inr (2, [.int (nI (u.1 1)), .ref (q 14), .ref (q 15), .ref (q 16), .ref (q 17), .ref (q 18), .ref (q 19)].set 0 (.int (nI v)))) = pw G q (up1 u.1 1 v, u.2) := rfl
theorem pw_num2 : (pw G q u).set 4 (q 4, .inr (3, [.int (nI (u.1 2)), .ref (q 20), .ref (q 21), .ref (q 22), .ref (q 23), .ref (q 24), .ref (q 25), .ref (q 26), .ref (q 27), .ref (q 28)].set 0 (.int (nI v)))) = pw G q (up1 u.1 2 v, u.2) := rfl
end WRL
section WRM
variable {G : gw_G} {q : Nat → Nat} {u : md_S} {x v : Nat} {z : Int}
theorem mw_at0 : (mw G q u)[0]? = some (q 0, .inr (5, [.int (nI (u.1 0)), .ref (q 1), .ref (q 2), .ref (q 3), .ref (q 4), .ref (q 5), .int (nI (u.1 1)), .ref (q 6), .ref (q 7), .ref (q 8), .ref (q 9), .int (nI (u.1 2)), .ref (q 10), .ref (q 11), .ref (q 12), .ref (q 13), .ref (q 14), .int (nI (u.1 3)), .ref (q 15), .ref (q 16), .ref (q 17), .ref (q 18), .ref (q 19), .int (nI (u.1 4)), .ref (q 20), .ref (q 21), .ref (q 22), .ref (q 23), .ref (q 24)])) := rfl
theorem mw_at1 : (mw G q u)[1]? = some (q 1, .inl (G.2.1, 6, .inl (fun j => nI (u.2.1 1 j)))) := rfl
theorem mw_set1 : (mw G q u).set 1 (q 1, .inl (G.2.1, 6, .inl (fun j => nI (if j = x then v else u.2.1 1 j)))) = mw G q (u.1, up2 u.2.1 1 x v, u.2.2) := rfl
theorem mw_at2 : (mw G q u)[2]? = some (q 2, .inl (G.2.1, 6, .inl (fun j => nI (u.2.1 2 j)))) := rfl
theorem mw_set2 : (mw G q u).set 2 (q 2, .inl (G.2.1, 6, .inl (fun j => nI (if j = x then v else u.2.1 2 j)))) = mw G q (u.1, up2 u.2.1 2 x v, u.2.2) := rfl
theorem mw_at3 : (mw G q u)[3]? = some (q 3, .inl (G.2.1, 6, .inl (fun j => nI (u.2.1 3 j)))) := rfl
theorem mw_set3 : (mw G q u).set 3 (q 3, .inl (G.2.1, 6, .inl (fun j => nI (if j = x then v else u.2.1 3 j)))) = mw G q (u.1, up2 u.2.1 3 x v, u.2.2) := rfl
theorem mw_at4 : (mw G q u)[4]? = some (q 4, .inl (G.2.1, 18, .inl (fun j => nI (u.2.1 4 j)))) := rfl
theorem mw_set4 : (mw G q u).set 4 (q 4, .inl (G.2.1, 18, .inl (fun j => nI (if j = x then v else u.2.1 4 j)))) = mw G q (u.1, up2 u.2.1 4 x v, u.2.2) := rfl
theorem mw_at5 : (mw G q u)[5]? = some (q 5, .inl (G.2.1, 18, .inl (fun j => nI (u.2.1 5 j)))) := rfl
theorem mw_set5 : (mw G q u).set 5 (q 5, .inl (G.2.1, 18, .inl (fun j => nI (if j = x then v else u.2.1 5 j)))) = mw G q (u.1, up2 u.2.1 5 x v, u.2.2) := rfl
theorem mw_at6 : (mw G q u)[6]? = some (q 6, .inl (G.2.1, 10, .inl (fun j => nI (u.2.1 6 j)))) := rfl
theorem mw_set6 : (mw G q u).set 6 (q 6, .inl (G.2.1, 10, .inl (fun j => nI (if j = x then v else u.2.1 6 j)))) = mw G q (u.1, up2 u.2.1 6 x v, u.2.2) := rfl
theorem mw_at7 : (mw G q u)[7]? = some (q 7, .inl (G.2.1, 10, .inl (fun j => nI (u.2.1 7 j)))) := rfl
theorem mw_set7 : (mw G q u).set 7 (q 7, .inl (G.2.1, 10, .inl (fun j => nI (if j = x then v else u.2.1 7 j)))) = mw G q (u.1, up2 u.2.1 7 x v, u.2.2) := rfl
theorem mw_at8 : (mw G q u)[8]? = some (q 8, .inl (G.2.1, 10, .inl (fun j => nI (u.2.1 8 j)))) := rfl
theorem mw_set8 : (mw G q u).set 8 (q 8, .inl (G.2.1, 10, .inl (fun j => nI (if j = x then v else u.2.1 8 j)))) = mw G q (u.1, up2 u.2.1 8 x v, u.2.2) := rfl
theorem mw_at9 : (mw G q u)[9]? = some (q 9, .inl (G.2.1, 10, .inl (fun j => nI (u.2.1 9 j)))) := rfl
theorem mw_set9 : (mw G q u).set 9 (q 9, .inl (G.2.1, 10, .inl (fun j => nI (if j = x then v else u.2.1 9 j)))) = mw G q (u.1, up2 u.2.1 9 x v, u.2.2) := rfl
theorem mw_at10 : (mw G q u)[10]? = some (q 10, .inl (G.2.1, 10, .inl (fun j => nI (u.2.1 10 j)))) := rfl
theorem mw_set10 : (mw G q u).set 10 (q 10, .inl (G.2.1, 10, .inl (fun j => nI (if j = x then v else u.2.1 10 j)))) = mw G q (u.1, up2 u.2.1 10 x v, u.2.2) := rfl
theorem mw_at11 : (mw G q u)[11]? = some (q 11, .inl (G.2.1, 10, .inl (fun j => nI (u.2.1 11 j)))) := rfl
theorem mw_set11 : (mw G q u).set 11 (q 11, .inl (G.2.1, 10, .inl (fun j => nI (if j = x then v else u.2.1 11 j)))) = mw G q (u.1, up2 u.2.1 11 x v, u.2.2) := rfl
theorem mw_at12 : (mw G q u)[12]? = some (q 12, .inl (G.2.1, 10, .inl (fun j => nI (u.2.1 12 j)))) := rfl
theorem mw_set12 : (mw G q u).set 12 (q 12, .inl (G.2.1, 10, .inl (fun j => nI (if j = x then v else u.2.1 12 j)))) = mw G q (u.1, up2 u.2.1 12 x v, u.2.2) := rfl
theorem mw_at13 : (mw G q u)[13]? = some (q 13, .inl (G.2.1, 10, .inl (fun j => nI (u.2.1 13 j)))) := rfl
theorem mw_set13 : (mw G q u).set 13 (q 13, .inl (G.2.1, 10, .inl (fun j => nI (if j = x then v else u.2.1 13 j)))) = mw G q (u.1, up2 u.2.1 13 x v, u.2.2) := rfl
theorem mw_at14 : (mw G q u)[14]? = some (q 14, .inl (G.2.1, 10, .inl (fun j => nI (u.2.1 14 j)))) := rfl
theorem mw_set14 : (mw G q u).set 14 (q 14, .inl (G.2.1, 10, .inl (fun j => nI (if j = x then v else u.2.1 14 j)))) = mw G q (u.1, up2 u.2.1 14 x v, u.2.2) := rfl
theorem mw_at15 : (mw G q u)[15]? = some (q 15, .inl (G.2.1, 40, .inl (fun j => nI (u.2.1 15 j)))) := rfl
theorem mw_set15 : (mw G q u).set 15 (q 15, .inl (G.2.1, 40, .inl (fun j => nI (if j = x then v else u.2.1 15 j)))) = mw G q (u.1, up2 u.2.1 15 x v, u.2.2) := rfl
theorem mw_at16 : (mw G q u)[16]? = some (q 16, .inl (G.2.1, 40, .inl (fun j => nI (u.2.1 16 j)))) := rfl
theorem mw_set16 : (mw G q u).set 16 (q 16, .inl (G.2.1, 40, .inl (fun j => nI (if j = x then v else u.2.1 16 j)))) = mw G q (u.1, up2 u.2.1 16 x v, u.2.2) := rfl
theorem mw_at17 : (mw G q u)[17]? = some (q 17, .inl (G.2.2.2, 40, .inr (.inl (fun j => Int64.ofInt (u.2.2 17 j))))) := rfl
theorem mw_set17 : (mw G q u).set 17 (q 17, .inl (G.2.2.2, 40, .inr (.inl (fun j => Int64.ofInt (if j = x then z else u.2.2 17 j))))) = mw G q (u.1, u.2.1, up3 u.2.2 17 x z) := rfl
theorem mw_at18 : (mw G q u)[18]? = some (q 18, .inl (G.2.1, 40, .inl (fun j => nI (u.2.1 18 j)))) := rfl
theorem mw_set18 : (mw G q u).set 18 (q 18, .inl (G.2.1, 40, .inl (fun j => nI (if j = x then v else u.2.1 18 j)))) = mw G q (u.1, up2 u.2.1 18 x v, u.2.2) := rfl
theorem mw_at19 : (mw G q u)[19]? = some (q 19, .inl (G.2.2.2, 10, .inr (.inl (fun j => Int64.ofInt (u.2.2 19 j))))) := rfl
theorem mw_set19 : (mw G q u).set 19 (q 19, .inl (G.2.2.2, 10, .inr (.inl (fun j => Int64.ofInt (if j = x then z else u.2.2 19 j))))) = mw G q (u.1, u.2.1, up3 u.2.2 19 x z) := rfl
theorem mw_at20 : (mw G q u)[20]? = some (q 20, .inl (G.2.1, 400, .inl (fun j => nI (u.2.1 20 j)))) := rfl
theorem mw_set20 : (mw G q u).set 20 (q 20, .inl (G.2.1, 400, .inl (fun j => nI (if j = x then v else u.2.1 20 j)))) = mw G q (u.1, up2 u.2.1 20 x v, u.2.2) := rfl
theorem mw_at21 : (mw G q u)[21]? = some (q 21, .inl (G.2.1, 400, .inl (fun j => nI (u.2.1 21 j)))) := rfl
theorem mw_set21 : (mw G q u).set 21 (q 21, .inl (G.2.1, 400, .inl (fun j => nI (if j = x then v else u.2.1 21 j)))) = mw G q (u.1, up2 u.2.1 21 x v, u.2.2) := rfl
theorem mw_at22 : (mw G q u)[22]? = some (q 22, .inl (G.2.1, 400, .inl (fun j => nI (u.2.1 22 j)))) := rfl
theorem mw_set22 : (mw G q u).set 22 (q 22, .inl (G.2.1, 400, .inl (fun j => nI (if j = x then v else u.2.1 22 j)))) = mw G q (u.1, up2 u.2.1 22 x v, u.2.2) := rfl
theorem mw_at23 : (mw G q u)[23]? = some (q 23, .inl (G.2.1, 400, .inl (fun j => nI (u.2.1 23 j)))) := rfl
theorem mw_set23 : (mw G q u).set 23 (q 23, .inl (G.2.1, 400, .inl (fun j => nI (if j = x then v else u.2.1 23 j)))) = mw G q (u.1, up2 u.2.1 23 x v, u.2.2) := rfl
theorem mw_at24 : (mw G q u)[24]? = some (q 24, .inl (G.2.1, 400, .inl (fun j => nI (u.2.1 24 j)))) := rfl
theorem mw_set24 : (mw G q u).set 24 (q 24, .inl (G.2.1, 400, .inl (fun j => nI (if j = x then v else u.2.1 24 j)))) = mw G q (u.1, up2 u.2.1 24 x v, u.2.2) := rfl
theorem mw_num0 : (mw G q u).set 0 (q 0, .inr (5, [.int (nI (u.1 0)), .ref (q 1), .ref (q 2), .ref (q 3), .ref (q 4), .ref (q 5), .int (nI (u.1 1)), .ref (q 6), .ref (q 7), .ref (q 8), .ref (q 9), .int (nI (u.1 2)), .ref (q 10), .ref (q 11), .ref (q 12), .ref (q 13), .ref (q 14), .int (nI (u.1 3)), .ref (q 15), .ref (q 16), .ref (q 17), .ref (q 18), .ref (q 19), .int (nI (u.1 4)), .ref (q 20), .ref (q 21), .ref (q 22), .ref (q 23), .ref (q 24)].set 0 (.int (nI v)))) = mw G q (up1 u.1 0 v, u.2) := rfl
theorem mw_num1 : (mw G q u).set 0 (q 0, .inr (5, [.int (nI (u.1 0)), .ref (q 1), .ref (q 2), .ref (q 3), .ref (q 4), .ref (q 5), .int (nI (u.1 1)), .ref (q 6), .ref (q 7), .ref (q 8), .ref (q 9), .int (nI (u.1 2)), .ref (q 10), .ref (q 11), .ref (q 12), .ref (q 13), .ref (q 14), .int (nI (u.1 3)), .ref (q 15), .ref (q 16), .ref (q 17), .ref (q 18), .ref (q 19), .int (nI (u.1 4)), .ref (q 20), .ref (q 21), .ref (q 22), .ref (q 23), .ref (q 24)].set 6 (.int (nI v)))) = mw G q (up1 u.1 1 v, u.2) := rfl
theorem mw_num2 : (mw G q u).set 0 (q 0, .inr (5, [.int (nI (u.1 0)), .ref (q 1), .ref (q 2), .ref (q 3), .ref (q 4), .ref (q 5), .int (nI (u.1 1)), .ref (q 6), .ref (q 7), .ref (q 8), .ref (q 9), .int (nI (u.1 2)), .ref (q 10), .ref (q 11), .ref (q 12), .ref (q 13), .ref (q 14), .int (nI (u.1 3)), .ref (q 15), .ref (q 16), .ref (q 17), .ref (q 18), .ref (q 19), .int (nI (u.1 4)), .ref (q 20), .ref (q 21), .ref (q 22), .ref (q 23), .ref (q 24)].set 11 (.int (nI v)))) = mw G q (up1 u.1 2 v, u.2) := rfl
theorem mw_num3 : (mw G q u).set 0 (q 0, .inr (5, [.int (nI (u.1 0)), .ref (q 1), .ref (q 2), .ref (q 3), .ref (q 4), .ref (q 5), .int (nI (u.1 1)), .ref (q 6), .ref (q 7), .ref (q 8), .ref (q 9), .int (nI (u.1 2)), .ref (q 10), .ref (q 11), .ref (q 12), .ref (q 13), .ref (q 14), .int (nI (u.1 3)), .ref (q 15), .ref (q 16), .ref (q 17), .ref (q 18), .ref (q 19), .int (nI (u.1 4)), .ref (q 20), .ref (q 21), .ref (q 22), .ref (q 23), .ref (q 24)].set 17 (.int (nI v)))) = mw G q (up1 u.1 3 v, u.2) := rfl
theorem mw_num4 : (mw G q u).set 0 (q 0, .inr (5, [.int (nI (u.1 0)), .ref (q 1), .ref (q 2), .ref (q 3), .ref (q 4), .ref (q 5), .int (nI (u.1 1)), .ref (q 6), .ref (q 7), .ref (q 8), .ref (q 9), .int (nI (u.1 2)), .ref (q 10), .ref (q 11), .ref (q 12), .ref (q 13), .ref (q 14), .int (nI (u.1 3)), .ref (q 15), .ref (q 16), .ref (q 17), .ref (q 18), .ref (q 19), .int (nI (u.1 4)), .ref (q 20), .ref (q 21), .ref (q 22), .ref (q 23), .ref (q 24)].set 23 (.int (nI v)))) = mw G q (up1 u.1 4 v, u.2) := rfl
end WRM
