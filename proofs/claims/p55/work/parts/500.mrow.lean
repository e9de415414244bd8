/-! ValveRoomModel: reading and writing its row. Written by program (wip/whole/gen/m500.py) but for the heads. -/
abbrev p3 (a b c : Int32) : Int32 := if a = 0 then 1 else if b = 0 then 2 else if c = 0 then 3 else 0
