/-! OUR KINDS OF OBJECTS: their fields, by program -/
def mT0 : u_T := fun k => match k with
  | 0 => ("ChannelRooms$Channel", "master", "I", false)
  | 1 => ("ChannelRooms$Channel", "dx", "J", false)
  | 2 => ("ChannelRooms$Channel", "dy", "J", false)
  | 3 => ("ChannelRooms$Channel", "turn", "I", false)
  | 4 => ("ChannelRooms$Channel", "mirrored", "Z", false)
  | 5 => ("ChannelRooms$Channel", "size", "I", false)
  | _ => ("ChannelRooms$Channel", "members", "[I", true)
def mty0 : Nat → FieldType := fun k => match k with
  | 0 => .int
  | 1 => .long
  | 2 => .long
  | 3 => .int
  | 4 => .boolean
  | 5 => .int
  | _ => .array .int
def mT1 : u_T := fun k => match k with
  | 0 => ("ChannelRooms$LabelSearch", "left", "[J", true)
  | 1 => ("ChannelRooms$LabelSearch", "low", "[J", true)
  | 2 => ("ChannelRooms$LabelSearch", "right", "[J", true)
  | 3 => ("ChannelRooms$LabelSearch", "high", "[J", true)
  | 4 => ("ChannelRooms$LabelSearch", "clashes", "[I", true)
  | 5 => ("ChannelRooms$LabelSearch", "open", "[I", true)
  | 6 => ("ChannelRooms$LabelSearch", "before", "[I", true)
  | 7 => ("ChannelRooms$LabelSearch", "chosen", "[I", true)
  | _ => ("ChannelRooms$LabelSearch", "count", "I", false)
def mty1 : Nat → FieldType := fun k => match k with
  | 0 => .array .long
  | 1 => .array .long
  | 2 => .array .long
  | 3 => .array .long
  | 4 => .array .int
  | 5 => .array .int
  | 6 => .array .int
  | 7 => .array .int
  | _ => .int
def mT2 : u_T := fun k => match k with
  | 0 => ("ChannelRooms$Part", "w", "J", false)
  | 1 => ("ChannelRooms$Part", "h", "J", false)
  | 2 => ("ChannelRooms$Part", "x", "J", false)
  | 3 => ("ChannelRooms$Part", "y", "J", false)
  | 4 => ("ChannelRooms$Part", "turn", "I", false)
  | 5 => ("ChannelRooms$Part", "channel", "I", false)
  | 6 => ("ChannelRooms$Part", "role", "I", false)
  | 7 => ("ChannelRooms$Part", "byHand", "Z", false)
  | 8 => ("ChannelRooms$Part", "labelled", "Z", false)
  | 9 => ("ChannelRooms$Part", "labelW", "J", false)
  | 10 => ("ChannelRooms$Part", "labelH", "J", false)
  | _ => ("ChannelRooms$Part", "spot", "I", false)
def mty2 : Nat → FieldType := fun k => match k with
  | 0 => .long
  | 1 => .long
  | 2 => .long
  | 3 => .long
  | 4 => .int
  | 5 => .int
  | 6 => .int
  | 7 => .boolean
  | 8 => .boolean
  | 9 => .long
  | 10 => .long
  | _ => .int
def mT3 : u_T := fun k => match k with
  | 0 => ("ChannelRooms$Pose", "w", "J", false)
  | 1 => ("ChannelRooms$Pose", "h", "J", false)
  | 2 => ("ChannelRooms$Pose", "left", "J", false)
  | 3 => ("ChannelRooms$Pose", "low", "J", false)
  | 4 => ("ChannelRooms$Pose", "right", "J", false)
  | 5 => ("ChannelRooms$Pose", "high", "J", false)
  | _ => ("ChannelRooms$Pose", "turn", "I", false)
def mty3 : Nat → FieldType := fun k => match k with
  | 0 => .long
  | 1 => .long
  | 2 => .long
  | 3 => .long
  | 4 => .long
  | 5 => .long
  | _ => .int
def mT4 : u_T := fun k => match k with
  | 0 => ("ChannelRooms$Room", "x0", "J", false)
  | 1 => ("ChannelRooms$Room", "y0", "J", false)
  | 2 => ("ChannelRooms$Room", "x1", "J", false)
  | 3 => ("ChannelRooms$Room", "y1", "J", false)
  | _ => ("ChannelRooms$Room", "members", "J", false)
def mty4 : Nat → FieldType := fun k => match k with
  | 0 => .long
  | 1 => .long
  | 2 => .long
  | 3 => .long
  | _ => .long
def mT5 : u_T := fun k => match k with
  | 0 => ("ChannelRooms", "parts", "[LChannelRooms$Part;", true)
  | 1 => ("ChannelRooms", "channels", "[LChannelRooms$Channel;", true)
  | 2 => ("ChannelRooms", "rooms", "[LChannelRooms$Room;", true)
  | 3 => ("ChannelRooms", "pose", "LChannelRooms$Pose;", true)
  | 4 => ("ChannelRooms", "labelSearch", "LChannelRooms$LabelSearch;", true)
  | 5 => ("ChannelRooms", "partCount", "I", false)
  | 6 => ("ChannelRooms", "channelCount", "I", false)
  | 7 => ("ChannelRooms", "roomCount", "I", false)
  | _ => ("ChannelRooms", "toldParts", "J", false)
def mty5 : Nat → FieldType := fun k => match k with
  | 0 => .array (.object "ChannelRooms$Part")
  | 1 => .array (.object "ChannelRooms$Channel")
  | 2 => .array (.object "ChannelRooms$Room")
  | 3 => .object "ChannelRooms$Pose"
  | 4 => .object "ChannelRooms$LabelSearch"
  | 5 => .int
  | 6 => .int
  | 7 => .int
  | _ => .long
def mT6 : u_T := fun k => match k with
  | 0 => ("ChannelRoomsModel", "thrown", "I", false)
  | 1 => ("ChannelRoomsModel", "parts", "I", false)
  | 2 => ("ChannelRoomsModel", "w", "[J", true)
  | 3 => ("ChannelRoomsModel", "h", "[J", true)
  | 4 => ("ChannelRoomsModel", "x", "[J", true)
  | 5 => ("ChannelRoomsModel", "y", "[J", true)
  | 6 => ("ChannelRoomsModel", "turn", "[I", true)
  | 7 => ("ChannelRoomsModel", "channelOf", "[I", true)
  | 8 => ("ChannelRoomsModel", "roleOf", "[I", true)
  | 9 => ("ChannelRoomsModel", "byHand", "[Z", true)
  | 10 => ("ChannelRoomsModel", "channels", "I", false)
  | 11 => ("ChannelRoomsModel", "masterOf", "[I", true)
  | 12 => ("ChannelRoomsModel", "moveX", "[J", true)
  | 13 => ("ChannelRoomsModel", "moveY", "[J", true)
  | 14 => ("ChannelRoomsModel", "turns", "[I", true)
  | 15 => ("ChannelRoomsModel", "mirrored", "[Z", true)
  | 16 => ("ChannelRoomsModel", "isTold", "[Z", true)
  | 17 => ("ChannelRoomsModel", "rooms", "I", false)
  | 18 => ("ChannelRoomsModel", "roomAt", "[J", true)
  | 19 => ("ChannelRoomsModel", "inRoom", "[Z", true)
  | 20 => ("ChannelRoomsModel", "labelW", "[J", true)
  | 21 => ("ChannelRoomsModel", "labelH", "[J", true)
  | 22 => ("ChannelRoomsModel", "spot", "[I", true)
  | 23 => ("ChannelRoomsModel", "forX", "J", false)
  | 24 => ("ChannelRoomsModel", "forY", "J", false)
  | 25 => ("ChannelRoomsModel", "forTurn", "I", false)
  | 26 => ("ChannelRoomsModel", "owner", "[I", true)
  | 27 => ("ChannelRoomsModel", "tried", "[I", true)
  | 28 => ("ChannelRoomsModel", "best", "[I", true)
  | 29 => ("ChannelRoomsModel", "cornerX", "[J", true)
  | _ => ("ChannelRoomsModel", "cornerY", "[J", true)
def mty6 : Nat → FieldType := fun k => match k with
  | 0 => .int
  | 1 => .int
  | 2 => .array .long
  | 3 => .array .long
  | 4 => .array .long
  | 5 => .array .long
  | 6 => .array .int
  | 7 => .array .int
  | 8 => .array .int
  | 9 => .array .boolean
  | 10 => .int
  | 11 => .array .int
  | 12 => .array .long
  | 13 => .array .long
  | 14 => .array .int
  | 15 => .array .boolean
  | 16 => .array .boolean
  | 17 => .int
  | 18 => .array .long
  | 19 => .array .boolean
  | 20 => .array .long
  | 21 => .array .long
  | 22 => .array .int
  | 23 => .long
  | 24 => .long
  | 25 => .int
  | 26 => .array .int
  | 27 => .array .int
  | 28 => .array .int
  | 29 => .array .long
  | _ => .array .long
def mm_cl : List vw_C := [("ChannelRooms$Channel", mT0, 7), ("ChannelRooms$LabelSearch", mT1, 9), ("ChannelRooms$Part", mT2, 12), ("ChannelRooms$Pose", mT3, 7), ("ChannelRooms$Room", mT4, 5), ("ChannelRooms", mT5, 9), ("ChannelRoomsModel", mT6, 31)]
def mm_fty : Nat → Nat → FieldType := fun x => match x with
  | 0 => mty0
  | 1 => mty1
  | 2 => mty2
  | 3 => mty3
  | 4 => mty4
  | 5 => mty5
  | _ => mty6
def mm_aty : List FieldType := [.int, .long, .boolean, .object "ChannelRooms$Part", .object "ChannelRooms$Channel", .object "ChannelRooms$Room"]
def mm_sn : List (String × String × String) := [("ChannelRooms", "SPOT_X", "[I"), ("ChannelRooms", "SPOT_Y", "[I")]
def mm_sv : Nat → Nat × (Nat → Int32) := fun j => match j with
  | 0 => (8, fun i => ([1, 0, -1, 0, 1, -1, -1, 1] : List Int32).getD i 0)
  | _ => (8, fun i => ([0, 1, 0, -1, 1, 1, -1, -1] : List Int32).getD i 0)
def mm_xn : Nat → String := fun k => match k with
  | 0 => "java/lang/IllegalArgumentException"
  | 1 => "java/lang/IndexOutOfBoundsException"
  | _ => "java/lang/IllegalStateException"
def mm_nc : List (String × String) := [("java/lang/IllegalArgumentException", "java/lang/IndexOutOfBoundsException"), ("java/lang/IllegalArgumentException", "java/lang/IllegalStateException"), ("java/lang/IndexOutOfBoundsException", "java/lang/IllegalArgumentException"), ("java/lang/IndexOutOfBoundsException", "java/lang/IllegalStateException"), ("java/lang/IllegalStateException", "java/lang/IllegalArgumentException"), ("java/lang/IllegalStateException", "java/lang/IndexOutOfBoundsException")]
def mm_acl : List FieldType := [.int, .long, .boolean]
def mm_ao : List String := ["ChannelRooms$Part", "ChannelRooms$Channel", "ChannelRooms$Room"]
def mm_str : List (String × Nat × String) := [("ChannelRooms", 249, "a size is 1 .. 1,000"), ("ChannelRooms", 238, "there is no such part"), ("ChannelRooms", 253, "a place is within -1,000,000 .. 1,000,000"), ("ChannelRooms", 255, "a turn is 0 .. 3"), ("ChannelRooms", 243, "there is no such channel"), ("ChannelRooms", 75, "a role is 0 .. 19"), ("ChannelRooms", 133, "the room is turned"), ("ChannelRooms", 139, "a corner is within -3,000,000 .. 3,000,000"), ("ChannelRooms", 245, "there is no such room"), ("ChannelRooms", 178, "there is no such axis"), ("ChannelRooms", 186, "the part has no label"), ("ChannelRooms", 199, "columns and rows are 1 .. 10"), ("ChannelRooms", 207, "a step is -100,000 .. 100,000"), ("ChannelRooms", 236, "there is no such thing to ask of a part")]
def mm_mxC : Nat := 601024
def mm_mxS : Nat := 7293034
def mm_n : Nat := 125
